/** Promises 1 to 4, 7 to 9 and 11: a new object, words, registers, and where the next instruction is. */
public final class WordsPromiseTest {
    private static final int[] WRONG_ADDRESSES = {-1, 4000, 4001, Integer.MIN_VALUE, Integer.MAX_VALUE, 1 << 16, -4000};
    private static final int[] WRONG_SIGNS = {-1, 2, 3, Integer.MIN_VALUE, Integer.MAX_VALUE};
    private static final int[] WRONG_SIZES = {-1, 1073741824, Integer.MIN_VALUE, Integer.MAX_VALUE, -1073741823};

    public static void main(String[] args) {
        newObject();
        wordsPokedAndPeeked();
        wrongWords();
        registersSet();
        wrongRegisters();
        goes();
        objectsAreApart();
        Check.end();
    }

    private static void newObject() {
        for (int part = 0; part < 4000; part += 200) {
            SignMachine x = new SignMachine();
            for (int i = part; i < part + 200; i++) {
                Rig.dueMem("new", x, i, 0, 0);
            }
        }
        SignMachine x = new SignMachine();
        for (int r = 0; r <= 8; r++) {
            Rig.dueReg("new", x, r, 0, 0);
        }
        for (int what = 0; what <= 6; what++) {
            Check.due("new: state(" + what + ")", x.state(what), 0);
        }
        for (int unit = 0; unit <= 1; unit++) {
            for (int block = 0; block < 40; block++) {
                Check.due("new: tape", x.tape(unit, block, 99 - block), 0);
            }
        }
        Check.due("new: about(0)", x.about(0), 0);
        Check.due("new: about(1)", x.about(1), -1);
        Check.due("new: about(2)", x.about(2), 0);
        Check.due("BAD", SignMachine.BAD, -1);
        Check.due("NONE", SignMachine.NONE, -2);
    }

    private static void wordsPokedAndPeeked() {
        SignMachine x = new SignMachine();
        int[] addresses = {0, 1, 1999, 3998, 3999};
        int[] sizes = {0, 1, 63, 64, 4095, 4096, 536870912, 1073741823};
        for (int address : addresses) {
            for (int size : sizes) {
                int sign = (size + address) % 2;
                Check.due("poke", x.poke(address, sign, size), true);
                Rig.dueMem("poked", x, address, sign, size);
            }
        }
        Check.due("poke + 0", x.poke(5, 0, 0), true);
        Rig.dueMem("+ 0", x, 5, 0, 0);
        Check.due("poke - 0", x.poke(5, 1, 0), true);
        Rig.dueMem("- 0", x, 5, 1, 0);
        Rig.dueMem("beside it", x, 4, 0, 0);
        Rig.dueMem("beside it", x, 6, 0, 0);
        Check.due("poke leaves state(0)", x.state(0), 0);
    }

    private static void wrongWords() {
        SignMachine x = new SignMachine();
        Check.due("poke", x.poke(9, 1, 99), true);
        for (int address : WRONG_ADDRESSES) {
            Check.due("poke at " + address, x.poke(address, 0, 1), false);
            Check.due("peekSign(" + address + ")", x.peekSign(address), -1);
            Check.due("peekSize(" + address + ")", x.peekSize(address), -1);
        }
        for (int sign : WRONG_SIGNS) {
            Check.due("poke sign " + sign, x.poke(9, sign, 1), false);
        }
        for (int size : WRONG_SIZES) {
            Check.due("poke size " + size, x.poke(9, 0, size), false);
            Check.due("poke size " + size, x.poke(9, 1, size), false);
        }
        Rig.dueMem("as before", x, 9, 1, 99);
        Rig.dueMem("as before", x, 0, 0, 0);
        Rig.dueMem("as before", x, 3999, 0, 0);
    }

    private static void registersSet() {
        SignMachine x = new SignMachine();
        for (int r = 0; r <= 8; r++) {
            int most = r == 0 || r == 7 ? 1073741823 : 4095;
            int sign = r == 8 ? 0 : 1;
            Check.due("set", x.set(r, sign, most - r), true);
        }
        for (int r = 0; r <= 8; r++) {
            int most = r == 0 || r == 7 ? 1073741823 : 4095;
            Rig.dueReg("set", x, r, r == 8 ? 0 : 1, most - r);
        }
        for (int r = 0; r <= 8; r++) {
            int most = r == 0 || r == 7 ? 1073741823 : 4095;
            Check.due("set most", x.set(r, 0, most), true);
            Rig.dueReg("most", x, r, 0, most);
            Check.due("set - 0", x.set(r, 1, 0), r != 8);
            Rig.dueReg("- 0", x, r, r == 8 ? 0 : 1, r == 8 ? 4095 : 0);
            Check.due("set + 0", x.set(r, 0, 0), true);
            Rig.dueReg("+ 0", x, r, 0, 0);
        }
    }

    private static void wrongRegisters() {
        SignMachine x = new SignMachine();
        for (int r = 0; r <= 8; r++) {
            Check.due("set", x.set(r, 0, 40 + r), true);
        }
        int[] none = {-1, 9, 10, 16, Integer.MIN_VALUE, Integer.MAX_VALUE};
        for (int r : none) {
            Check.due("set(" + r + ")", x.set(r, 0, 1), false);
            Check.due("registerSign(" + r + ")", x.registerSign(r), -1);
            Check.due("registerSize(" + r + ")", x.registerSize(r), -1);
        }
        for (int r = 0; r <= 8; r++) {
            for (int sign : WRONG_SIGNS) {
                Check.due("set sign " + sign, x.set(r, sign, 1), false);
            }
            for (int size : WRONG_SIZES) {
                Check.due("set size " + size, x.set(r, 0, size), false);
            }
            boolean big = r == 0 || r == 7;
            Check.due("set(" + r + ") beyond two bytes", x.set(r, 0, 4096), big);
            Check.due("set(" + r + ") beyond two bytes, -", x.set(r, 1, 4096), big);
            if (big) {
                Rig.dueReg("five bytes", x, r, 1, 4096);
                Check.due("set", x.set(r, 0, 40 + r), true);
            }
        }
        Check.due("set(8) below 0", x.set(8, 1, 5), false);
        for (int r = 0; r <= 8; r++) {
            Rig.dueReg("as before", x, r, 0, 40 + r);
        }
    }

    private static void goes() {
        SignMachine x = new SignMachine();
        int[] good = {3999, 1, 0, 2000};
        for (int address : good) {
            Check.due("go(" + address + ")", x.go(address), true);
            Check.due("state(0)", x.state(0), address);
        }
        for (int address : WRONG_ADDRESSES) {
            Check.due("go(" + address + ")", x.go(address), false);
            Check.due("state(0) behind go(" + address + ")", x.state(0), 2000);
        }
        Check.due("J stays", x.registerSize(8), 0);
        Check.due("TIME stays", x.state(3), 0);
    }

    private static void objectsAreApart() {
        SignMachine x = new SignMachine();
        SignMachine y = new SignMachine();
        x.poke(3, 1, 33);
        x.set(0, 1, 44);
        x.go(55);
        Rig.feed(x, "12345678901234567890");
        Rig.dueMem("the other object", y, 3, 0, 0);
        Rig.dueReg("the other object", y, 0, 0, 0);
        Check.due("the other object: state(0)", y.state(0), 0);
        Check.due("the other object: about(2)", y.about(2), 0);
    }
}
