/** The terms of words and instructions: each sentence that names a boundary has a test of its own here. */
public final class InstructionBoundariesTest {
    private static final int MAX = Rig.MAX;
    private static final int A = Rig.A, X = Rig.X, J = Rig.J;

    public static void main(String[] args) {
        bytes();
        twoZeros();
        memory();
        shortRegisters();
        fields();
        values();
        addresses();
        addressesOfNothing();
        sumsOfIndex();
        sumZeroOfIndex();
        sumsZero();
        sumsTooGreat();
        products();
        quotients();
        quotientsRefused();
        numbersOfDigits();
        numbersTooGreat();
        digitsOfNumbers();
        shiftsOfA();
        shiftsOfAX();
        shiftsAround();
        shiftsBelowZero();
        moves();
        movesOneByOne();
        movesAtTheEdges();
        movesOfNothing();
        loads();
        stores();
        storesOfShortOnes();
        units();
        winds();
        blocks();
        wordsOfBlocks();
        goesAlways();
        toggleOffInBoth();
        goesByIndicator();
        goesByZero();
        whereItWouldHaveGoneOn();
        becomesZero();
        growsTooGreat();
        comparesZeros();
        goesNowhere();
        placeOfTheInstruction();
        reasonsInOrder();
        changingNothing();
        Check.end();
    }

    private static SignMachine fresh() {
        return new SignMachine();
    }

    private static void bytes() {
        Check.sentence("five BYTES of 0 .. 63, numbered 1 .. 5 from the highest; so its size is below 64 to the 5th");
        SignMachine x = fresh();
        Check.due("poke", x.poke(100, 0, Rig.bytes(63, 0, 1, 62, 63)), true);
        int[] want = {63, 0, 1, 62, 63};
        for (int i = 1; i <= 5; i++) {
            Check.due("LOAD byte " + i, Rig.does(x, 100, 0, 9 * i, 8), 0);
            Rig.dueReg("byte " + i, x, A, 0, want[i - 1]);
        }
        Check.due("all bytes 63", x.poke(100, 0, 64 * 64 * 64 * 64 * 64 - 1), true);
        Check.due("64 to the 5th", x.poke(100, 0, 64 * 64 * 64 * 64 * 64), false);
    }

    private static void twoZeros() {
        Check.sentence("+ 0 and - 0 are two words");
        SignMachine x = fresh();
        x.poke(100, 1, 0);
        Check.due("LOAD", Rig.does(x, 100, 0, 5, 8), 0);
        Rig.dueReg("LOAD", x, A, 1, 0);
        Check.due("STORE", Rig.does(x, 101, 0, 5, 24), 0);
        Rig.dueMem("STORE", x, 101, 1, 0);
        x.set(A, 0, 0);
        Check.due("STORE", Rig.does(x, 101, 0, 5, 24), 0);
        Rig.dueMem("STORE", x, 101, 0, 0);
    }

    private static void memory() {
        Check.sentence("MEMORY has words 0 .. 3999");
        for (int c : new int[] {1, 2, 3, 4, 8, 9, 15, 16, 23, 24, 31, 32, 33, 56, 63}) {
            Check.due("C " + c + " of word 0", Rig.does(fresh(), 0, 0, 0, c), 0);
            Check.due("C " + c + " of word 3999", Rig.does(fresh(), 3999, 0, 0, c), 0);
            Check.due("C " + c + " of word - 1", Rig.does(fresh(), -1, 0, 0, c), 3);
            Check.due("C " + c + " of word 4000", Rig.does(fresh(), 4000, 0, 0, c), 3);
        }
    }

    private static void shortRegisters() {
        Check.sentence("I1 .. I6 and J two (4 and 5; J always +)");
        SignMachine x = fresh();
        for (int r = 1; r <= 6; r++) {
            Rig.reg(x, r, 4095);
            x.poke(100, 1, MAX);
            Check.due("STORE", Rig.does(x, 100, 0, 13, 24 + r), 0);
            Rig.dueMem("bytes 4 and 5 of I" + r, x, 100, 1, Rig.bytes(0, 0, 0, 63, 63));
        }
        x.go(3999);
        x.poke(3999, 0, 3999 << 18 | 39);
        Check.due("JMP", x.step(), 0);
        x.poke(100, 1, MAX);
        Check.due("STORE J", Rig.does(x, 100, 0, 5, 32), 0);
        Rig.dueMem("J", x, 100, 0, 4000);
    }

    private static boolean isField(int f) {
        int left = f / 8;
        int right = f % 8;
        return left <= right && right <= 5;
    }

    private static void fields() {
        Check.sentence("A FIELD F is 8 L + R, the bytes L .. R (L from 0, the sign, on; L <= R <= 5); 2: a field that is none (1 .. 4, 8 .. 33, 56 .. 63)");
        int good = 0;
        for (int f = 0; f < 64; f++) {
            good += isField(f) ? 1 : 0;
            for (int c = 0; c < 64; c++) {
                if (c >= 1 && c <= 4 || c >= 8 && c <= 33 || c >= 56) {
                    Check.due("C " + c + " F " + f, Rig.does(fresh(), 100, 0, f, c), isField(f) ? 0 : 2);
                }
            }
        }
        Check.due("fields in all", good, 21);
        int[] others = {5, 2, 6, 5, 34, 1, 35, 1, 36, 1, 37, 1, 38, 1, 39, 9, 40, 5, 43, 5, 47, 5, 48, 3, 51, 3, 55, 3};
        Check.sentence("another F than told (5, 6, 39 .. 55; unit 34 .. 38)");
        for (int i = 0; i < others.length; i += 2) {
            int want = others[i] == 5 ? 1 : 0;
            Check.due("C " + others[i] + ", its last F", Rig.does(fresh(), 0, 0, others[i + 1], others[i]), want);
            Check.due("C " + others[i] + ", one more", Rig.does(fresh(), 0, 0, others[i + 1] + 1, others[i]), 2);
            Check.due("C " + others[i] + ", F 63", Rig.does(fresh(), 0, 0, 63, others[i]), 2);
        }
        Check.due("C 0, F 63", Rig.does(fresh(), 0, 0, 63, 0), 0);
        Check.due("C 7, F 63", Rig.does(fresh(), 0, 0, 63, 7), 0);
    }

    private static void values() {
        Check.sentence("Its VALUE V: these bytes at the right end of a word, with the sign if L is 0, else +");
        int[] bytes = {0, 1, 2, 3, 4, 5};
        for (int f = 0; f < 64; f++) {
            if (!isField(f)) {
                continue;
            }
            int size = 0;
            for (int i = Math.max(1, f / 8); i <= f % 8; i++) {
                size = size * 64 + bytes[i];
            }
            SignMachine x = fresh();
            x.poke(100, 1, Rig.bytes(1, 2, 3, 4, 5));
            x.set(A, f < 8 ? 0 : 1, 7);
            Check.due("LOAD", Rig.does(x, 100, 0, f, 8), 0);
            Rig.dueReg("V of F " + f, x, A, f < 8 ? 1 : 0, size);
        }
    }

    private static void addresses() {
        Check.sentence("its sign and bytes 1 and 2 an ADDRESS (from - 4095 to 4095), byte 3 an INDEX 0 .. 6");
        SignMachine x = fresh();
        Check.due("4095", Rig.does(x, 4095, 0, 2, 48), 0);
        Rig.dueReg("4095", x, A, 0, 4095);
        Check.due("- 4095", Rig.does(x, -4095, 0, 2, 48), 0);
        Rig.dueReg("- 4095", x, A, 1, 4095);
        Check.due("63: byte 2 alone", Rig.does(x, 63, 0, 2, 48), 0);
        Rig.dueReg("63", x, A, 0, 63);
        Check.sentence("2: INDEX above 6");
        for (int c = 0; c < 64; c++) {
            Check.due("C " + c + " INDEX 6", Rig.does(fresh(), 0, 6, 0, c), 0);
            Check.due("C " + c + " INDEX 7", Rig.does(fresh(), 0, 7, 0, c), 2);
            Check.due("C " + c + " INDEX 63", Rig.does(fresh(), 0, 63, 0, c), 2);
        }
    }

    private static void addressesOfNothing() {
        Check.sentence("3 an address: M where a word is needed (nothing, 5, 48 .. 55 need none)");
        for (int address : new int[] {-4095, -1, 4000, 4095}) {
            Check.due("C 0", Rig.does(fresh(), address, 0, 0, 0), 0);
            for (int f = 0; f <= 2; f++) {
                Check.due("C 5 F " + f, Rig.does(fresh(), address, 0, f, 5), f == 2 ? 1 : 0);
            }
            for (int c = 48; c <= 55; c++) {
                for (int f = 0; f <= 3; f++) {
                    Check.due("C " + c + " F " + f, Rig.does(fresh(), address, 0, f, c), 0);
                }
            }
        }
    }

    private static void sumsOfIndex() {
        Check.sentence("M is the ADDRESS and the number in that index register, if INDEX is not 0, together (so from - 8190 on)");
        for (int r = 1; r <= 6; r++) {
            SignMachine x = fresh();
            Rig.reg(x, A, 99);
            Rig.reg(x, r, -4095);
            Check.due("- 8190", Rig.does(x, -4095, r, 2, 55), 0);
            Rig.dueReg("- 8190", x, X, 1, 8190);
            Rig.reg(x, r, 4095);
            Check.due("8190", Rig.does(x, 4095, r, 2, 55), 0);
            Rig.dueReg("8190", x, X, 0, 8190);
            Check.due("INDEX 0", Rig.does(x, 5, 0, 2, 55), 0);
            Rig.dueReg("INDEX 0", x, X, 0, 5);
        }
    }

    private static void sumZeroOfIndex() {
        Check.sentence("- 0, if the sum is 0, the sign being that of the ADDRESS");
        SignMachine x = fresh();
        for (int sign = 0; sign <= 1; sign++) {
            Rig.reg(x, 3, sign == 0 ? -7 : 7);
            Rig.putSigned(x, 3000, sign, 7, 3, 2, 55);
            x.go(3000);
            Check.due("7 and 7", x.step(), 0);
            Rig.dueReg("7 and 7", x, X, sign, 0);
            Rig.putSigned(x, 3000, sign, 0, 0, 2, 55);
            x.go(3000);
            Check.due("0", x.step(), 0);
            Rig.dueReg("0", x, X, sign, 0);
            x.set(3, 1 - sign, 0);
            Rig.putSigned(x, 3000, sign, 0, 3, 2, 55);
            x.go(3000);
            Check.due("0 and the other 0", x.step(), 0);
            Rig.dueReg("0 and the other 0", x, X, sign, 0);
        }
    }

    private static void sum(int c, int signA, int a, int number, int sign, int size, int toggle) {
        SignMachine x = fresh();
        x.set(A, signA, a);
        Rig.mem(x, 100, number);
        String title = "A " + signA + " " + a + ", C " + c + " with " + number;
        Check.due(title, Rig.does(x, 100, 0, 5, c), 0);
        Rig.dueReg(title, x, A, sign, size);
        Check.due(title + ": TOGGLE", x.state(1), toggle);
    }

    private static void sumsZero() {
        Check.sentence("a sum 0 has A's sign");
        sum(1, 0, 5, -5, 0, 0, 0);
        sum(1, 1, 5, 5, 1, 0, 0);
        sum(1, 1, 0, 0, 1, 0, 0);
        sum(2, 0, 5, 5, 0, 0, 0);
        sum(2, 1, 5, -5, 1, 0, 0);
        sum(2, 1, 0, 0, 1, 0, 0);
        sum(1, 0, MAX, -MAX, 0, 0, 0);
        sum(2, 1, MAX, -MAX, 1, 0, 0);
        SignMachine x = fresh();
        x.poke(100, 1, 0);
        Check.due("+ 0 and - 0", Rig.does(x, 100, 0, 5, 1), 0);
        Rig.dueReg("+ 0 and - 0", x, A, 0, 0);
    }

    private static void sumsTooGreat() {
        Check.sentence("what is too great for five bytes loses 64 to the 5th, and the TOGGLE is on");
        sum(1, 0, MAX - 1, 1, 0, MAX, 0);
        sum(1, 0, MAX, 1, 0, 0, 1);
        sum(1, 0, MAX, MAX, 0, MAX - 1, 1);
        sum(1, 1, MAX - 1, -1, 1, MAX, 0);
        sum(1, 1, MAX, -1, 1, 0, 1);
        sum(1, 1, MAX, -MAX, 1, MAX - 1, 1);
        sum(2, 0, MAX - 1, -1, 0, MAX, 0);
        sum(2, 0, MAX, -1, 0, 0, 1);
        sum(2, 1, MAX - 1, 1, 1, MAX, 0);
        sum(2, 1, MAX, 1, 1, 0, 1);
        sum(2, 1, MAX, MAX, 1, MAX - 1, 1);
        sum(1, 0, 0, MAX, 0, MAX, 0);
    }

    private static void products() {
        Check.sentence("3 MULTIPLY (10): AX is A times V, both with its sign");
        int[][] rows = {{MAX, MAX, MAX - 1, 1}, {MAX, 1, 0, MAX}, {MAX, 2, 1, MAX - 1}, {1 << 15, 1 << 15, 1, 0}, {0, MAX, 0, 0}, {MAX, 0, 0, 0}};
        for (int[] row : rows) {
            for (int signs = 0; signs < 4; signs++) {
                SignMachine x = fresh();
                x.set(A, signs / 2, row[0]);
                x.set(X, signs % 2, 5);
                x.poke(100, signs % 2, row[1]);
                Check.due("MULTIPLY", Rig.does(x, 100, 0, 5, 3), 0);
                int sign = signs / 2 == signs % 2 ? 0 : 1;
                Rig.dueReg(row[0] + " times " + row[1], x, A, sign, row[2]);
                Rig.dueReg(row[0] + " times " + row[1], x, X, sign, row[3]);
                Check.due("TOGGLE", x.state(1), 0);
            }
        }
    }

    private static void quotient(int a, int low, int v, int quotient, int left) {
        for (int signs = 0; signs < 8; signs++) {
            SignMachine x = fresh();
            x.set(A, signs / 4, a);
            x.set(X, signs / 2 % 2, low);
            x.poke(100, signs % 2, v);
            Check.due("DIVIDE", Rig.does(x, 100, 0, 5, 4), 0);
            Rig.dueReg("the quotient", x, A, signs / 4 == signs % 2 ? 0 : 1, quotient);
            Rig.dueReg("what is left", x, X, signs / 4, left);
            Check.due("TOGGLE", x.state(1), 0);
        }
    }

    private static void quotients() {
        Check.sentence("4 DIVIDE AX (with A's sign) by V (12): A the quotient (its sign as usual), X what is left, with A's sign before");
        quotient(0, 17, 5, 3, 2);
        quotient(0, 4, 5, 0, 4);
        quotient(0, 0, 1, 0, 0);
        quotient(0, MAX, 1, MAX, 0);
        quotient(MAX - 1, MAX, MAX, MAX, MAX - 1);
        quotient(4, 0, 5, (int) (4L * (1L << 30) / 5), (int) (4L * (1L << 30) % 5));
    }

    private static void quotientsRefused() {
        Check.sentence("if A is not less than V in size, the TOGGLE is on, and A, X stay");
        int[][] rows = {{5, 5}, {6, 5}, {0, 0}, {MAX, MAX}, {MAX, 0}, {1, 1}};
        for (int[] row : rows) {
            for (int signs = 0; signs < 4; signs++) {
                SignMachine x = fresh();
                x.set(A, signs / 2, row[0]);
                x.set(X, 1 - signs / 2, 44);
                x.poke(100, signs % 2, row[1]);
                Check.due("DIVIDE", Rig.does(x, 100, 0, 5, 4), 0);
                Rig.dueReg("stays", x, A, signs / 2, row[0]);
                Rig.dueReg("stays", x, X, 1 - signs / 2, 44);
                Check.due("TOGGLE", x.state(1), 1);
                Check.due("TIME", x.state(3), 12);
                Check.due("next", x.state(0), 3001);
            }
        }
    }

    private static void number(int high, int low, int want, int toggle) {
        for (int sign = 0; sign <= 1; sign++) {
            SignMachine x = fresh();
            x.set(A, sign, high);
            x.set(X, 1 - sign, low);
            Check.due("NUM", Rig.does(x, 0, 0, 0, 5), 0);
            Rig.dueReg("NUM", x, A, sign, want);
            Rig.dueReg("NUM", x, X, 1 - sign, low);
            Check.due("NUM: TOGGLE", x.state(1), toggle);
        }
    }

    private static void numbersOfDigits() {
        Check.sentence("F 0: A becomes the number of AX's ten bytes as digits (each modulo 10)");
        number(0, 0, 0, 0);
        number(Rig.bytes(0, 10, 20, 30, 40), Rig.bytes(50, 60, 0, 0, 0), 0, 0);
        number(Rig.bytes(0, 1, 2, 3, 4), Rig.bytes(5, 6, 7, 8, 9), 123456789, 0);
        number(Rig.bytes(60, 61, 62, 63, 54), Rig.bytes(45, 36, 27, 18, 9), 123456789, 0);
        number(0, 63, 3, 0);
    }

    private static int bytesOf(long ten, int from) {
        int size = 0;
        long rest = ten;
        int[] digits = new int[10];
        for (int i = 9; i >= 0; i--) {
            digits[i] = (int) (rest % 10);
            rest /= 10;
        }
        for (int i = from; i < from + 5; i++) {
            size = size * 64 + 30 + digits[i];
        }
        return size;
    }

    private static void numbersTooGreat() {
        Check.sentence("without 64 to the 5th as often as can be (the TOGGLE is on then)");
        long limit = 1L << 30;
        number(bytesOf(limit - 1, 0), bytesOf(limit - 1, 5), MAX, 0);
        number(bytesOf(limit, 0), bytesOf(limit, 5), 0, 1);
        for (int times = 1; times <= 9; times++) {
            number(bytesOf(times * limit, 0), bytesOf(times * limit, 5), 0, 1);
            number(bytesOf(times * limit + 7, 0), bytesOf(times * limit + 7, 5), 7, 1);
        }
        number(bytesOf(9999999999L, 0), bytesOf(9999999999L, 5), (int) (9999999999L - 9 * limit), 1);
    }

    private static void digitsOfNumbers() {
        Check.sentence("1: AX's bytes become 30 and the ten digits of A's size; signs stay in both");
        int[] sizes = {0, 9, 10, 99999, 100000, 1000000000, MAX};
        for (int size : sizes) {
            for (int sign = 0; sign <= 1; sign++) {
                SignMachine x = fresh();
                x.set(A, sign, size);
                x.set(X, 1 - sign, MAX);
                Check.due("CHAR", Rig.does(x, 0, 0, 1, 5), 0);
                Rig.dueReg("CHAR of " + size, x, A, sign, bytesOf(size, 0));
                Rig.dueReg("CHAR of " + size, x, X, 1 - sign, bytesOf(size, 5));
                Check.due("TOGGLE", x.state(1), 0);
            }
        }
    }

    /** A's and X's bytes are 1 .. 10 before, and what is asked for then. */
    private static void shift(int f, int m, int[] a, int[] low) {
        SignMachine x = fresh();
        x.set(A, 1, Rig.bytes(1, 2, 3, 4, 5));
        x.set(X, 0, Rig.bytes(6, 7, 8, 9, 10));
        Rig.reg(x, 2, m > 4095 ? m - 4095 : 0);
        Check.due("F " + f + " by " + m, Rig.does(x, Math.min(m, 4095), 2, f, 6), 0);
        Rig.dueReg("F " + f + " by " + m, x, A, 1, Rig.bytes(a[0], a[1], a[2], a[3], a[4]));
        Rig.dueReg("F " + f + " by " + m, x, X, 0, Rig.bytes(low[0], low[1], low[2], low[3], low[4]));
    }

    private static final int[] A_BEFORE = {1, 2, 3, 4, 5}, X_BEFORE = {6, 7, 8, 9, 10}, ZEROS = {0, 0, 0, 0, 0};

    private static void shiftsOfA() {
        Check.sentence("6 (2): by M places: F 0 A to the left, 1 to the right (0s come in); signs stay");
        for (int f = 0; f <= 1; f++) {
            shift(f, 0, A_BEFORE, X_BEFORE);
            for (int m : new int[] {5, 6, 10, 11, 64, 4095, 8190}) {
                shift(f, m, ZEROS, X_BEFORE);
            }
        }
        shift(0, 1, new int[] {2, 3, 4, 5, 0}, X_BEFORE);
        shift(0, 4, new int[] {5, 0, 0, 0, 0}, X_BEFORE);
        shift(1, 1, new int[] {0, 1, 2, 3, 4}, X_BEFORE);
        shift(1, 4, new int[] {0, 0, 0, 0, 1}, X_BEFORE);
    }

    private static void shiftsOfAX() {
        Check.sentence("2 AX to the left, 3 to the right (0s come in)");
        for (int f = 2; f <= 3; f++) {
            shift(f, 0, A_BEFORE, X_BEFORE);
            for (int m : new int[] {10, 11, 20, 64, 4095, 8190}) {
                shift(f, m, ZEROS, ZEROS);
            }
        }
        shift(2, 1, new int[] {2, 3, 4, 5, 6}, new int[] {7, 8, 9, 10, 0});
        shift(2, 5, X_BEFORE, ZEROS);
        shift(2, 9, new int[] {10, 0, 0, 0, 0}, ZEROS);
        shift(3, 1, new int[] {0, 1, 2, 3, 4}, new int[] {5, 6, 7, 8, 9});
        shift(3, 5, ZEROS, A_BEFORE);
        shift(3, 9, ZEROS, new int[] {0, 0, 0, 0, 1});
    }

    private static void shiftsAround() {
        Check.sentence("4 AX around to the left, 5 to the right");
        for (int f = 4; f <= 5; f++) {
            for (int m : new int[] {0, 10, 20, 4090, 8190}) {
                shift(f, m, A_BEFORE, X_BEFORE);
            }
            for (int m : new int[] {5, 15, 4095}) {
                shift(f, m, X_BEFORE, A_BEFORE);
            }
        }
        for (int m : new int[] {1, 11, 8181}) {
            shift(4, m, new int[] {2, 3, 4, 5, 6}, new int[] {7, 8, 9, 10, 1});
            shift(5, m, new int[] {10, 1, 2, 3, 4}, new int[] {5, 6, 7, 8, 9});
        }
        for (int m : new int[] {9, 8189}) {
            shift(4, m, new int[] {10, 1, 2, 3, 4}, new int[] {5, 6, 7, 8, 9});
            shift(5, m, new int[] {2, 3, 4, 5, 6}, new int[] {7, 8, 9, 10, 1});
        }
    }

    private static void shiftsBelowZero() {
        Check.sentence("M not below 0; 3: M below 0 of 6");
        for (int f = 0; f <= 5; f++) {
            SignMachine x = fresh();
            Rig.putSigned(x, 3000, 1, 0, 0, f, 6);
            x.go(3000);
            Check.due("by - 0", x.step(), 0);
            Check.due("by - 1", Rig.does(x, -1, 0, f, 6), 3);
            Check.due("by - 4095", Rig.does(x, -4095, 0, f, 6), 3);
            Rig.reg(x, 4, 4);
            Check.due("by - 4 and 4", Rig.does(x, -4, 4, f, 6), 0);
            Check.due("by - 5 and 4", Rig.does(x, -5, 4, f, 6), 3);
        }
    }

    private static void moves() {
        Check.sentence("7 MOVE F words (1 and 2 F); I1 grows by F");
        for (int f : new int[] {0, 1, 63}) {
            SignMachine x = fresh();
            for (int i = 0; i < 64; i++) {
                x.poke(100 + i, 1, i);
            }
            Rig.reg(x, 1, 500);
            Check.due("MOVE " + f, Rig.does(x, 100, 0, f, 7), 0);
            Rig.dueReg("MOVE " + f, x, 1, 0, 500 + f);
            Check.due("TIME", x.state(3), 1 + 2 * f);
            for (int i = 0; i < 64; i++) {
                Rig.dueMem("MOVE " + f, x, 500 + i, i < f ? 1 : 0, i < f ? i : 0);
            }
        }
    }

    private static void movesOneByOne() {
        Check.sentence("from M on to I1 on, one by one, the lowest first");
        SignMachine x = fresh();
        for (int i = 0; i < 9; i++) {
            x.poke(100 + i, 0, 1 + i);
        }
        Rig.reg(x, 1, 101);
        Check.due("one word on", Rig.does(x, 100, 0, 8, 7), 0);
        for (int i = 0; i < 9; i++) {
            Rig.dueMem("the first one comes to all", x, 100 + i, 0, 1);
        }
        for (int i = 0; i < 9; i++) {
            x.poke(100 + i, 0, 1 + i);
        }
        Rig.reg(x, 1, 99);
        Check.due("one word back", Rig.does(x, 100, 0, 9, 7), 0);
        for (int i = 0; i < 9; i++) {
            Rig.dueMem("each comes one back", x, 99 + i, 0, 1 + i);
        }
    }

    private static void movesAtTheEdges() {
        Check.sentence("3 an address: a word that would be moved, from or to");
        int[][] rows = {{3937, 100, 63, 0}, {3938, 100, 63, 3}, {100, 3937, 63, 0}, {100, 3938, 63, 3}, {3999, 0, 1, 0}, {4000, 0, 1, 3}, {0, 3999, 1, 0}, {0, 4000, 1, 3},
            {-1, 0, 1, 3}, {0, -1, 1, 3}, {-1, 0, 2, 3}, {0, -1, 2, 3}, {0, 0, 1, 0}, {4095, 4095, 1, 3}};
        for (int[] row : rows) {
            SignMachine x = fresh();
            Rig.reg(x, 1, row[1]);
            Rig.mem(x, 3999, 77);
            Rig.mem(x, 0, 66);
            Check.due("MOVE " + row[2] + " from " + row[0] + " to " + row[1], Rig.does(x, row[0], 0, row[2], 7), row[3]);
            Rig.dueReg("I1", x, 1, row[3] == 3 && row[1] < 0 ? 1 : 0, row[3] == 3 ? Math.abs(row[1]) : row[1] + row[2]);
            if (row[3] == 3) {
                Rig.dueMem("changing nothing", x, 3999, 0, 77);
                Rig.dueMem("changing nothing", x, 0, 0, 66);
            }
        }
    }

    private static void movesOfNothing() {
        Check.sentence("3: a word that would be moved (of F 0 there is none)");
        int[][] rows = {{0, 0}, {-1, 5}, {4000, 5}, {5, -1}, {5, 4000}, {4095, 4095}, {-4095, -4095}};
        for (int[] row : rows) {
            SignMachine x = fresh();
            Rig.reg(x, 1, row[1]);
            Check.due("MOVE 0 from " + row[0] + " to " + row[1], Rig.does(x, row[0], 0, 0, 7), 0);
            Rig.dueReg("MOVE 0 from " + row[0] + " to " + row[1], x, 1, row[1] < 0 ? 1 : 0, Math.abs(row[1]));
            Check.due("TIME", x.state(3), 1);
        }
    }

    private static void loads() {
        Check.sentence("8 .. 15 LOAD V; 16 .. 23 the same with the other sign; 4 an index register would have more than two bytes");
        for (int r = 1; r <= 6; r++) {
            SignMachine x = fresh();
            Rig.reg(x, r, 7);
            int[] numbers = {4095, -4095, 4096, -4096, MAX, -MAX};
            for (int number : numbers) {
                Rig.mem(x, 100, number);
                boolean can = Math.abs(number) <= 4095;
                Rig.reg(x, r, 7);
                Check.due("LOAD " + number, Rig.does(x, 100, 0, 5, 8 + r), can ? 0 : 4);
                Rig.dueReg("LOAD " + number, x, r, can && number < 0 ? 1 : 0, can ? 4095 : 7);
                Rig.reg(x, r, 7);
                Check.due("LOAD " + number + " with the other sign", Rig.does(x, 100, 0, 5, 16 + r), can ? 0 : 4);
                Rig.dueReg("LOAD " + number + " with the other sign", x, r, can && number > 0 ? 1 : 0, can ? 4095 : 7);
            }
            Rig.mem(x, 100, -MAX);
            Check.due("two bytes of five", Rig.does(x, 100, 0, 2, 8 + r), 0);
            Rig.dueReg("two bytes of five", x, r, 1, 4095);
            Check.due("three bytes of five", Rig.does(x, 100, 0, 3, 8 + r), 4);
            Rig.mem(x, 100, -Rig.bytes(0, 5, 6, 0, 0));
            Check.due("three bytes, the first one 0", Rig.does(x, 100, 0, 3, 8 + r), 0);
            Rig.dueReg("three bytes, the first one 0", x, r, 1, 5 * 64 + 6);
        }
    }

    private static void stores() {
        Check.sentence("24 .. 31 STORE: as many bytes as F has, from the register's right end, come into F's of the word, and its sign, if L is 0");
        for (int f = 0; f < 64; f++) {
            if (!isField(f)) {
                continue;
            }
            int[] word = {0, 11, 12, 13, 14, 15};
            int next = 5;
            for (int i = f % 8; i >= Math.max(1, f / 8); i--) {
                word[i] = next;
                next--;
            }
            for (int sign = 0; sign <= 1; sign++) {
                SignMachine x = fresh();
                x.set(A, sign, Rig.bytes(1, 2, 3, 4, 5));
                x.poke(100, 1 - sign, Rig.bytes(11, 12, 13, 14, 15));
                Check.due("STORE", Rig.does(x, 100, 0, f, 24), 0);
                Rig.dueMem("STORE F " + f, x, 100, f < 8 ? sign : 1 - sign, Rig.bytes(word[1], word[2], word[3], word[4], word[5]));
            }
        }
    }

    private static void storesOfShortOnes() {
        Check.sentence("(I: three bytes 0 in front); 32 STORE J, 33 STORE + 0 likewise");
        for (int c = 25; c <= 33; c++) {
            if (c == 31) {
                continue;
            }
            SignMachine x = fresh();
            int size = c == 33 ? 0 : Rig.bytes(0, 0, 0, 8, 9);
            int sign = c <= 30 ? 1 : 0;
            if (c <= 32) {
                Check.due("set", x.set(c - 24, sign, size), true);
            }
            x.poke(100, 1 - sign, MAX);
            Check.due("STORE whole", Rig.does(x, 100, 0, 5, c), 0);
            Rig.dueMem("C " + c + ": three bytes 0 in front", x, 100, sign, size);
            x.poke(100, 1 - sign, MAX);
            Check.due("STORE 1:3", Rig.does(x, 100, 0, 11, c), 0);
            Rig.dueMem("C " + c + ": one byte 0 in front", x, 100, 1 - sign, size << 12 | 4095);
            x.poke(100, 1 - sign, MAX);
            Check.due("STORE 0:0", Rig.does(x, 100, 0, 0, c), 0);
            Rig.dueMem("C " + c + ": the sign alone", x, 100, sign, MAX);
        }
    }

    private static void units() {
        Check.sentence("34 goes to M if the unit F is at work (never, 1), 38 if it is not (always, 1); UNITS are 0 and 1");
        for (int f = 0; f <= 2; f++) {
            SignMachine x = fresh();
            Check.due("34, F " + f, Rig.does(x, 3999, 0, f, 34), f <= 1 ? 0 : 2);
            Check.due("34, F " + f + ": next", x.state(0), f <= 1 ? 3001 : 3000);
            Rig.dueReg("34", x, J, 0, 0);
            Check.due("38, F " + f, Rig.does(x, 3999, 0, f, 38), f <= 1 ? 0 : 2);
            Check.due("38, F " + f + ": next", x.state(0), f <= 1 ? 3999 : 3000);
            Rig.dueReg("38", x, J, 0, f <= 1 ? 3001 : 0);
            for (int c = 35; c <= 37; c++) {
                Check.due("C " + c + ", F " + f, Rig.does(x, 0, 0, f, c), f <= 1 ? 0 : 2);
            }
        }
    }

    private static void wind(SignMachine x, int unit, int from, int m, int why) {
        Check.due("to the first block", Rig.does(x, 0, 0, unit, 35), 0);
        Check.due("M 0: to its first block", x.state(4 + unit), 0);
        if (from > 0) {
            Check.due("WIND by " + from, Rig.does(x, from, 0, unit, 35), 0);
        }
        Check.due("WIND from " + from + " by " + m, Rig.does(x, m, 0, unit, 35), why);
        Check.due("WIND from " + from + " by " + m + ": stands", x.state(4 + unit), why != 0 ? from : m == 0 ? 0 : from + m);
    }

    private static void winds() {
        Check.sentence("35 WIND: unit F's tape by M blocks, on or back; M 0: to its first block; 5 a tape's block that is none (0 .. 40 are places)");
        for (int unit = 0; unit <= 1; unit++) {
            SignMachine x = fresh();
            wind(x, unit, 0, 40, 0);
            wind(x, unit, 0, 41, 5);
            wind(x, unit, 0, -1, 5);
            wind(x, unit, 40, -40, 0);
            wind(x, unit, 40, -41, 5);
            wind(x, unit, 40, 1, 5);
            wind(x, unit, 40, 0, 0);
            wind(x, unit, 39, 1, 0);
            wind(x, unit, 39, 2, 5);
            wind(x, unit, 1, -1, 0);
            wind(x, unit, 20, 4095, 5);
            wind(x, unit, 20, -4095, 5);
            Check.due("WIND on", Rig.does(x, 5, 0, unit, 35), 0);
            Rig.putSigned(x, 3000, 1, 0, 0, unit, 35);
            x.go(3000);
            Check.due("M - 0", x.step(), 0);
            Check.due("M - 0: to its first block", x.state(4 + unit), 0);
        }
    }

    private static void blocks() {
        Check.sentence("36 READ, 37 WRITE: the tape goes on to the next one; at 40 nothing can be read or written; a word that would be read, written");
        for (int unit = 0; unit <= 1; unit++) {
            for (int c = 36; c <= 37; c++) {
                SignMachine x = fresh();
                Check.due("WIND", Rig.does(x, 38, 0, unit, 35), 0);
                Check.due("block 38, words from 0 on", Rig.does(x, 0, 0, unit, c), 0);
                Check.due("goes on", x.state(4 + unit), 39);
                Check.due("words from 3901 on", Rig.does(x, 3901, 0, unit, c), 3);
                Check.due("words from - 1 on", Rig.does(x, -1, 0, unit, c), 3);
                Check.due("stays", x.state(4 + unit), 39);
                Check.due("block 39, words from 3900 on", Rig.does(x, 3900, 0, unit, c), 0);
                Check.due("goes on", x.state(4 + unit), 40);
                Check.due("block 40", Rig.does(x, 0, 0, unit, c), 5);
                Check.due("stays", x.state(4 + unit), 40);
                Check.due("block 40 and no such words", Rig.does(x, 3901, 0, unit, c), 3);
                Check.due("34 reads nothing", Rig.does(x, 0, 0, unit, 34), 0);
                Check.due("38 reads nothing", Rig.does(x, 0, 0, unit, 38), 0);
                Check.due("the other unit", x.state(5 - unit), 0);
            }
        }
    }

    private static void wordsOfBlocks() {
        Check.sentence("36 READ, 37 WRITE: the block where its tape stands, to or from MEMORY from M on; a tape has 40 blocks of 100 words");
        for (int unit = 0; unit <= 1; unit++) {
            SignMachine x = fresh();
            int[] at = {499, 500, 501, 598, 599, 600};
            for (int i : at) {
                x.poke(i, 1, i);
            }
            Check.due("WIND", Rig.does(x, 39, 0, unit, 35), 0);
            Check.due("WRITE", Rig.does(x, 500, 0, unit, 37), 0);
            int[] ks = {0, 1, 98, 99};
            for (int k : ks) {
                Check.due("word " + k, x.tape(unit, 39, k), -500 - k);
                Check.due("the block before", x.tape(unit, 38, k), 0);
                Check.due("the other unit", x.tape(1 - unit, 39, k), 0);
            }
            x.poke(699, 0, 6);
            x.poke(800, 0, 8);
            Check.due("WIND", Rig.does(x, -1, 0, unit, 35), 0);
            Check.due("READ", Rig.does(x, 700, 0, unit, 36), 0);
            for (int k : ks) {
                Rig.dueMem("word " + k, x, 700 + k, 1, 500 + k);
            }
            Rig.dueMem("before the first one", x, 699, 0, 6);
            Rig.dueMem("behind the last one", x, 800, 0, 8);
        }
    }

    private static void goesAlways() {
        Check.sentence("39 (1): GO to M: F 0 always; 1 always, J staying");
        for (int number = -1; number <= 1; number++) {
            SignMachine x = fresh();
            Rig.reg(x, A, number);
            Check.due("COMPARE", Rig.does(x, 100, 0, 5, 56), 0);
            Check.due("INDICATOR", x.state(2), number);
            for (int on = 0; on <= 1; on++) {
                for (int f = 0; f <= 1; f++) {
                    Rig.reg(x, J, 5);
                    Check.due("F " + f, Rig.does(x, 0, 0, f, 39), 0);
                    Check.due("F " + f + ": next", x.state(0), 0);
                    Rig.dueReg("F " + f, x, J, 0, f == 0 ? 3001 : 5);
                    Check.due("TOGGLE stays", x.state(1), on);
                    Check.due("INDICATOR stays", x.state(2), number);
                }
                Rig.reg(x, A, MAX);
                Check.due("TOGGLE on", Rig.does(x, 1, 0, 0, 48), 0);
            }
        }
    }

    private static void toggleOffInBoth() {
        Check.sentence("2 if the TOGGLE is on, 3 if it is off (it is off then, in both)");
        for (int f = 2; f <= 3; f++) {
            for (int on = 0; on <= 1; on++) {
                SignMachine x = fresh();
                if (on == 1) {
                    Rig.reg(x, A, MAX);
                    Check.due("too great", Rig.does(x, 1, 0, 0, 48), 0);
                }
                Check.due("TOGGLE", x.state(1), on);
                boolean goes = f == 2 ? on == 1 : on == 0;
                Check.due("a GO that can't be", Rig.does(x, 4000, 0, f, 39), 3);
                Check.due("TOGGLE stays", x.state(1), on);
                Check.due("F " + f, Rig.does(x, 5, 0, f, 39), 0);
                Check.due("F " + f + ": next", x.state(0), goes ? 5 : 3001);
                Rig.dueReg("F " + f, x, J, 0, goes ? 3001 : 0);
                Check.due("TOGGLE off", x.state(1), 0);
            }
        }
    }

    private static void goesByIndicator() {
        Check.sentence("4 .. 9 if the INDICATOR is less; equal; greater; not less; not equal; not greater");
        for (int r = 0; r <= 7; r++) {
            for (int number = 4; number <= 6; number++) {
                SignMachine x = fresh();
                Rig.mem(x, 100, 5);
                Rig.reg(x, r, number);
                Check.due("COMPARE", Rig.does(x, 100, 0, 5, 56 + r), 0);
                boolean[] want = {number < 5, number == 5, number > 5, number >= 5, number != 5, number <= 5};
                for (int f = 4; f <= 9; f++) {
                    Check.due("GO", Rig.does(x, 17, 0, f, 39), 0);
                    Check.due("register " + r + " " + number + " F " + f, x.state(0), want[f - 4] ? 17 : 3001);
                    Check.due("the INDICATOR stays", x.state(2), number - 5);
                }
            }
        }
    }

    private static void goesByZero() {
        Check.sentence("if register C - 40 is F 0 below 0, 1 zero, 2 above 0, 3 not below, 4 not zero, 5 not above 0 (- 0 is zero)");
        for (int r = 0; r <= 7; r++) {
            for (int kind = 0; kind < 4; kind++) {
                int sign = kind % 2;
                int size = kind / 2;
                int number = sign == 0 ? size : -size;
                boolean[] want = {number < 0, number == 0, number > 0, number >= 0, number != 0, number <= 0};
                for (int f = 0; f <= 5; f++) {
                    SignMachine x = fresh();
                    x.set(r, sign, size);
                    Check.due("GO", Rig.does(x, 17, 0, f, 40 + r), 0);
                    Check.due("register " + r + " sign " + sign + " size " + size + " F " + f, x.state(0), want[f] ? 17 : 3001);
                    Rig.dueReg("GO", x, J, 0, want[f] ? 3001 : 0);
                }
            }
        }
    }

    private static void whereItWouldHaveGoneOn() {
        Check.sentence("A GO that goes (39 but F 1, 34, 38, 40 .. 47) leaves in J where it would have gone on");
        int[][] goes = {{39, 0, 1}, {39, 1, 0}, {39, 3, 1}, {39, 5, 1}, {39, 7, 1}, {39, 9, 1}, {38, 0, 1}, {38, 1, 1}, {40, 1, 1}, {41, 3, 1}, {47, 5, 1}};
        int[][] stays = {{39, 2}, {39, 4}, {39, 6}, {39, 8}, {34, 0}, {34, 1}, {40, 0}, {41, 2}, {47, 4}};
        for (int place = 0; place < 4000; place += 3999) {
            for (int[] g : goes) {
                SignMachine x = fresh();
                Rig.reg(x, J, 55);
                Rig.put(x, place, 3998, 0, g[1], g[0]);
                x.go(place);
                Check.due("C " + g[0] + " F " + g[1], x.step(), 0);
                Check.due("goes", x.state(0), 3998);
                Rig.dueReg("C " + g[0] + " F " + g[1] + " at " + place, x, J, 0, g[2] == 1 ? place + 1 : 55);
            }
            for (int[] s : stays) {
                SignMachine x = fresh();
                Rig.reg(x, J, 55);
                Rig.put(x, place, 3998, 0, s[1], s[0]);
                x.go(place);
                Check.due("C " + s[0] + " F " + s[1], x.step(), 0);
                Check.due("goes on", x.state(0), place + 1);
                Rig.dueReg("C " + s[0] + " F " + s[1] + " at " + place, x, J, 0, 55);
            }
        }
    }

    private static void becomesZero() {
        Check.sentence("2 becomes M, 3 - M (with M's sign, if that is 0; with the other one)");
        for (int r = 0; r <= 7; r++) {
            for (int sign = 0; sign <= 1; sign++) {
                for (int f = 2; f <= 3; f++) {
                    SignMachine x = fresh();
                    x.set(r, 0, 9);
                    Rig.putSigned(x, 3000, sign, 0, 0, f, 48 + r);
                    x.go(3000);
                    Check.due("step()", x.step(), 0);
                    Rig.dueReg("F " + f + ", M " + (sign == 0 ? "+ 0" : "- 0"), x, r, f == 2 ? sign : 1 - sign, 0);
                }
            }
        }
    }

    private static void grows(int r, int before, int index, int m, int f, int why, int after, int toggle) {
        SignMachine x = fresh();
        Rig.reg(x, r, before);
        int other = r == 5 ? 6 : 5;
        Rig.reg(x, other, index);
        String title = "register " + r + " " + before + " F " + f + " by " + m + " and " + index;
        Check.due(title, Rig.does(x, m, other, f, 48 + r), why);
        Rig.dueReg(title, x, r, after < 0 || after == 0 && before < 0 ? 1 : 0, Math.abs(after));
        Check.due(title + ": TOGGLE", x.state(1), toggle);
    }

    private static void growsTooGreat() {
        Check.sentence("0 and 1 as ADD; 4 an index register would have more than two bytes (48 .. 55)");
        for (int r = 0; r <= 7; r += 7) {
            grows(r, MAX - 8190, 4095, 4095, 0, 0, MAX, 0);
            grows(r, MAX - 8189, 4095, 4095, 0, 0, 0, 1);
            grows(r, -MAX, 0, 1, 1, 0, 0, 1);
            grows(r, -MAX, 0, -1, 0, 0, 0, 1);
            grows(r, -5, 0, 5, 0, 0, 0, 0);
            grows(r, 5, 0, 5, 1, 0, 0, 0);
        }
        for (int r = 1; r <= 6; r++) {
            grows(r, 4094, 0, 1, 0, 0, 4095, 0);
            grows(r, 4095, 0, 1, 0, 4, 4095, 0);
            grows(r, -4095, 0, -1, 0, 4, -4095, 0);
            grows(r, -4095, 0, 1, 1, 4, -4095, 0);
            grows(r, -4094, 0, 1, 1, 0, -4095, 0);
            grows(r, -4095, 4095, 4095, 0, 0, 4095, 0);
            grows(r, -4094, 4095, 4095, 0, 4, -4094, 0);
            grows(r, 7, 4094, 1, 2, 0, 4095, 0);
            grows(r, 7, 4095, 1, 2, 4, 7, 0);
            grows(r, 7, 4094, 1, 3, 0, -4095, 0);
            grows(r, 7, 4095, 1, 3, 4, 7, 0);
            grows(r, 7, -4095, -1, 2, 4, 7, 0);
            grows(r, 7, -4095, -1, 3, 4, 7, 0);
        }
    }

    private static void comparesZeros() {
        Check.sentence("the INDICATOR is less, equal or greater (- 0 equal to + 0)");
        for (int r = 0; r <= 7; r++) {
            for (int signs = 0; signs < 4; signs++) {
                SignMachine x = fresh();
                x.set(r, signs / 2, 0);
                x.poke(100, signs % 2, 0);
                Check.due("COMPARE", Rig.does(x, 100, 0, 5, 56 + r), 0);
                Check.due("zeros", x.state(2), 0);
                x.poke(100, signs % 2, 1);
                Check.due("COMPARE", Rig.does(x, 100, 0, 5, 56 + r), 0);
                Check.due("0 with 1 or - 1", x.state(2), signs % 2 == 0 ? -1 : 1);
                Check.due("COMPARE", Rig.does(x, 100, 0, 0, 56 + r), 0);
                Check.due("field 0:0", x.state(2), 0);
                Check.due("COMPARE", Rig.does(x, 100, 0, 12, 56 + r), 0);
                Check.due("field 1:4", x.state(2), 0);
            }
        }
    }

    private static void goesNowhere() {
        Check.sentence("3 an address: where it GOES (also if it does not go)");
        for (int c = 34; c <= 47; c++) {
            if (c >= 35 && c <= 37) {
                continue;
            }
            int most = c == 39 ? 9 : c >= 40 ? 5 : 1;
            for (int f = 0; f <= most; f++) {
                Check.due("C " + c + " F " + f + " to 0", Rig.does(fresh(), 0, 0, f, c), 0);
                Check.due("C " + c + " F " + f + " to 3999", Rig.does(fresh(), 3999, 0, f, c), 0);
                Check.due("C " + c + " F " + f + " to 4000", Rig.does(fresh(), 4000, 0, f, c), 3);
                Check.due("C " + c + " F " + f + " to - 1", Rig.does(fresh(), -1, 0, f, c), 3);
                SignMachine x = fresh();
                Rig.reg(x, 6, 1);
                Check.due("C " + c + " F " + f + " to 3999 and 1", Rig.does(x, 3999, 6, f, c), 3);
                Check.due("C " + c + " F " + f + " to - 1 and 1", Rig.does(x, -1, 6, f, c), 0);
            }
        }
    }

    private static void placeOfTheInstruction() {
        Check.sentence("3: the place of the instruction itself");
        SignMachine x = fresh();
        x.go(3999);
        Check.due("at 3999", x.step(), 0);
        for (int i = 0; i < 2; i++) {
            Check.due("at 4000", x.step(), 3);
            Check.due("state(0)", x.state(0), 4000);
            Check.due("TIME", x.state(3), 1);
            Check.due("run", x.run(5), 0);
            Check.due("state(6)", x.state(6), 3);
        }
        x.go(0);
        Check.due("at 0", x.step(), 0);
    }

    private static void reason(int why, SignMachine x, int address, int index, int f, int c) {
        Check.due("address " + address + " INDEX " + index + " F " + f + " C " + c, Rig.does(x, address, index, f, c), why);
    }

    private static void reasonsInOrder() {
        Check.sentence("CAN'T BE, in this order: 2 C, F or INDEX; 3 an address; 4 an index register; 5 a tape's block");
        int[] noField = {1, 2, 3, 4, 8, 9, 15, 16, 17, 23, 24, 25, 31, 32, 33, 56, 57, 63};
        for (int c : noField) {
            reason(2, fresh(), 4000, 0, 6, c);
            reason(2, fresh(), 4000, 7, 5, c);
        }
        int[] noPlace = {34, 38, 39, 40, 47};
        for (int c : noPlace) {
            reason(2, fresh(), -1, 0, 10, c);
            reason(2, fresh(), -1, 7, 0, c);
        }
        reason(2, fresh(), -1, 0, 6, 6);
        reason(2, fresh(), -1, 7, 0, 6);
        reason(2, fresh(), -1, 7, 1, 7);
        SignMachine x = fresh();
        Rig.reg(x, 1, 4095);
        Rig.mem(x, 5, MAX);
        reason(2, x, 5, 7, 5, 9);
        reason(2, x, 5, 0, 14, 9);
        reason(2, x, 1, 0, 4, 49);
        reason(2, x, 1, 7, 0, 49);
        reason(3, x, 4000, 0, 5, 9);
        reason(3, x, 0, 0, 1, 7);
        reason(4, x, 5, 0, 5, 9);
        reason(4, x, 1, 0, 0, 49);
        Check.due("WIND", Rig.does(x, 40, 0, 0, 35), 0);
        for (int c = 36; c <= 37; c++) {
            reason(2, x, 0, 0, 2, c);
            reason(2, x, 0, 7, 0, c);
            reason(2, x, 4000, 0, 2, c);
            reason(3, x, 4000, 0, 0, c);
            reason(5, x, 0, 0, 0, c);
        }
        reason(2, x, 1, 0, 2, 35);
        reason(2, x, 1, 7, 0, 35);
        reason(5, x, 1, 0, 0, 35);
    }

    private static void changingNothing() {
        Check.sentence("CAN'T BE, changing nothing");
        int[][] rows = {{8, 6, 100, 2}, {1, 5, 4000, 3}, {24, 6, 100, 2}, {33, 46, 100, 2}, {24, 5, 4000, 3}, {33, 5, -1, 3}, {7, 63, 3990, 3}, {36, 0, 3950, 3}, {37, 2, 100, 2}, {36, 1, 100, 5},
            {37, 1, 100, 5}, {35, 1, 1, 5}, {35, 0, -1, 5}, {39, 2, 4000, 3}, {39, 0, 4000, 3}, {41, 4, -1, 3}, {9, 5, 100, 4}, {22, 5, 100, 4}, {50, 0, 4095, 4}, {56, 53, 100, 2}, {6, 0, -1, 3}};
        for (int[] row : rows) {
            SignMachine x = fresh();
            for (int r = 0; r <= 7; r++) {
                x.set(r, 0, 200 + r);
            }
            Rig.mem(x, 100, MAX);
            Rig.mem(x, 200, 1);
            Rig.mem(x, 3999, 3);
            Check.due("WIND", Rig.does(x, 40, 0, 1, 35), 0);
            x.set(0, 0, MAX);
            Check.due("TOGGLE on", Rig.does(x, 1, 0, 0, 48), 0);
            Check.due("INDICATOR less", Rig.does(x, 100, 0, 5, 56), 0);
            Rig.put(x, 3000, row[2], 0, row[1], row[0]);
            x.go(3000);
            long[] before = Rig.all(x);
            String title = "C " + row[0] + " F " + row[1] + " address " + row[2];
            Check.due(title, x.step(), row[3]);
            Rig.dueSame(title, Rig.all(x), before);
            Rig.dueMem(title, x, 100, 0, MAX);
            Rig.dueMem(title, x, 200, 0, 1);
            Rig.dueMem(title, x, 3999, 0, 3);
            Check.due(title + ": tape", x.tape(1, 39, 0), 0);
        }
    }
}
