/** Short ways to bring an object into a state and to ask for all of it. */
final class Rig {
    static final int A = 0, I1 = 1, I2 = 2, I3 = 3, I4 = 4, I5 = 5, I6 = 6, X = 7, J = 8;
    static final int MAX = 1073741823;

    private Rig() {
    }

    /** The size of five bytes. */
    static int bytes(int b1, int b2, int b3, int b4, int b5) {
        return b1 << 24 | b2 << 18 | b3 << 12 | b4 << 6 | b5;
    }

    /** An instruction comes to a place; a minus address of 0 can't be told this way. */
    static void put(SignMachine x, int place, int address, int index, int f, int c) {
        putSigned(x, place, address < 0 ? 1 : 0, Math.abs(address), index, f, c);
    }

    static void putSigned(SignMachine x, int place, int sign, int address, int index, int f, int c) {
        Check.due("poke(" + place + ")", x.poke(place, sign, address << 18 | index << 12 | f << 6 | c), true);
    }

    /** A register becomes; - 0 is asked for by set() itself. */
    static void reg(SignMachine x, int r, int number) {
        Check.due("set(" + r + ", " + number + ")", x.set(r, number < 0 ? 1 : 0, Math.abs(number)), true);
    }

    static void mem(SignMachine x, int place, int number) {
        Check.due("poke(" + place + ", " + number + ")", x.poke(place, number < 0 ? 1 : 0, Math.abs(number)), true);
    }

    /** The instruction stands at 3000 and is done there. */
    static int does(SignMachine x, int address, int index, int f, int c) {
        put(x, 3000, address, index, f, c);
        Check.due("go(3000)", x.go(3000), true);
        return x.step();
    }

    static void dueReg(String title, SignMachine x, int r, int sign, int size) {
        Check.due(title + ": registerSign(" + r + ")", x.registerSign(r), sign);
        Check.due(title + ": registerSize(" + r + ")", x.registerSize(r), size);
    }

    static void dueMem(String title, SignMachine x, int place, int sign, int size) {
        Check.due(title + ": peekSign(" + place + ")", x.peekSign(place), sign);
        Check.due(title + ": peekSize(" + place + ")", x.peekSize(place), size);
    }

    /** Registers and state in a row: what must stay when an instruction can't be. */
    static long[] all(SignMachine x) {
        long[] row = new long[24];
        for (int r = 0; r <= 8; r++) {
            row[2 * r] = x.registerSign(r);
            row[2 * r + 1] = x.registerSize(r);
        }
        for (int what = 0; what <= 5; what++) {
            row[18 + what] = x.state(what);
        }
        return row;
    }

    static void dueSame(String title, long[] got, long[] want) {
        Check.due(title + ": how much", got.length, want.length);
        for (int i = 0; i < want.length; i++) {
            Check.due(title + ": " + (i < 18 ? "register " + i / 2 + (i % 2 == 0 ? " sign" : " size") : "state " + (i - 18)), got[i], want[i]);
        }
    }

    /** The text comes behind what the object has of it. */
    static void feed(SignMachine x, String text) {
        byte[] b = new byte[(text.length() + 19) / 20 * 20];
        for (int i = 0; i < b.length; i++) {
            b[i] = (byte) (i < text.length() ? text.charAt(i) : ' ');
        }
        int last = 0;
        for (int i = 0; i < b.length; i += 20) {
            last = x.feed(four(b, i), four(b, i + 4), four(b, i + 8), four(b, i + 12), four(b, i + 16));
        }
        if (b.length > text.length()) {
            Check.due("end()", x.end(20 - (b.length - text.length())), last - (b.length - text.length()));
        }
    }

    private static int four(byte[] b, int i) {
        return (b[i] & 255) << 24 | (b[i + 1] & 255) << 16 | (b[i + 2] & 255) << 8 | b[i + 3] & 255;
    }

    static int assemble(SignMachine x, String text) {
        feed(x, text);
        return x.assemble();
    }
}
