/** Promises 1 to 16: each sentence about a call that names a boundary has a test of its own here. */
public final class CallBoundariesTest {
    private static final int MAX = Rig.MAX;
    private static final int LEAST = Integer.MIN_VALUE, MOST = Integer.MAX_VALUE;
    private static final int[] NO_ADDRESSES = {-1, 4000, -4000, 4001, LEAST, MOST};
    private static final int[] NO_SIGNS = {-1, 2, LEAST, MOST};
    private static final int[] NO_SIZES = {-1, MAX + 1, -MAX, LEAST, MOST};

    public static void main(String[] args) {
        atMost512Calls();
        newObject();
        poke();
        peeks();
        step();
        stepThatHalts();
        stepThatCantBe();
        runBounds();
        runUntilHalt();
        runUntilOneCantBe();
        registers();
        set();
        setShort();
        setJ();
        stateNext();
        stateToggleAndIndicator();
        stateTapes();
        stateEnding();
        stateNone();
        go();
        tape();
        feed();
        feedTooMuch();
        feedHighestFirst();
        end();
        endRefused();
        assembleEmpties();
        assembleStarts();
        assembleWithFault();
        aboutLine();
        aboutPlace();
        aboutBytes();
        aboutNone();
        Check.end();
    }

    private static void atMost512Calls() {
        Check.sentence("An object is used for at most 512 calls");
        SignMachine x = new SignMachine();
        for (int i = 1; i <= 200; i++) {
            Check.due("feed " + i, x.feed(0x0A0A0A0A, 0x0A0A0A0A, 0x0A0A0A0A, 0x0A0A0A0A, 0x0A0A0A0A), 20 * i);
        }
        Check.due("assemble()", x.assemble(), 6);
        for (int i = 202; i <= 510; i++) {
            Check.due("poke " + i, x.poke(i, i % 2, i), true);
        }
        Check.due("call 511", x.peekSize(510), 510);
        Check.due("call 512", x.run(1), 1);
    }

    private static void newObject() {
        Check.sentence("All words and registers + 0, the TOGGLE off, the INDICATOR equal, tapes at their first block, TIME 0, the next instruction at 0");
        SignMachine x = new SignMachine();
        int[] places = {0, 1, 2000, 3998, 3999};
        for (int place : places) {
            Rig.dueMem("new", x, place, 0, 0);
        }
        for (int r = 0; r <= 8; r++) {
            Rig.dueReg("new", x, r, 0, 0);
        }
        for (int what = 0; what <= 6; what++) {
            Check.due("state(" + what + ")", x.state(what), 0);
        }
        for (int unit = 0; unit <= 1; unit++) {
            Check.due("first word of tape " + unit, x.tape(unit, 0, 0), 0);
            Check.due("last word of tape " + unit, x.tape(unit, 39, 99), 0);
        }
    }

    private static void poke() {
        Check.sentence("A word becomes: sign 0 +, 1 -");
        SignMachine x = new SignMachine();
        for (int place = 0; place < 4000; place += 3999) {
            for (int sign = 0; sign <= 1; sign++) {
                for (int size : new int[] {0, 1, MAX - 1, MAX}) {
                    Check.due("poke", x.poke(place, sign, size), true);
                    Rig.dueMem("poked", x, place, sign, size);
                }
            }
        }
        Check.sentence("False, changing nothing: none such, another sign, a size below 0 or too great");
        for (int address : NO_ADDRESSES) {
            Check.due("poke(" + address + ", 0, 7)", x.poke(address, 0, 7), false);
        }
        for (int place = 0; place < 4000; place += 3999) {
            for (int sign : NO_SIGNS) {
                Check.due("poke(" + place + ", " + sign + ", 7)", x.poke(place, sign, 7), false);
            }
            for (int size : NO_SIZES) {
                Check.due("poke(" + place + ", 0, " + size + ")", x.poke(place, 0, size), false);
                Check.due("poke(" + place + ", 1, " + size + ")", x.poke(place, 1, size), false);
            }
            Rig.dueMem("as before", x, place, 1, MAX);
        }
    }

    private static void peeks() {
        SignMachine x = new SignMachine();
        x.poke(0, 1, 0);
        x.poke(3999, 1, 12);
        Check.sentence("The sign of a word (0, 1). BAD: none such");
        Check.due("peekSign(0)", x.peekSign(0), 1);
        Check.due("peekSign(1)", x.peekSign(1), 0);
        Check.due("peekSign(3999)", x.peekSign(3999), 1);
        for (int address : NO_ADDRESSES) {
            Check.due("peekSign(" + address + ")", x.peekSign(address), -1);
        }
        Check.sentence("Its size. BAD: none such");
        Check.due("peekSize(0)", x.peekSize(0), 0);
        Check.due("peekSize(3999)", x.peekSize(3999), 12);
        for (int address : NO_ADDRESSES) {
            Check.due("peekSize(" + address + ")", x.peekSize(address), -1);
        }
    }

    private static void step() {
        Check.sentence("One instruction: 0");
        SignMachine x = new SignMachine();
        Check.due("step()", x.step(), 0);
        Check.due("one instruction alone", x.state(0), 1);
        Check.due("one instruction alone", x.state(3), 1);
        Check.due("state(6)", x.state(6), 0);
    }

    private static void stepThatHalts() {
        Check.sentence("or 1 it was a HALT (the next one is behind it)");
        for (int place = 0; place < 4000; place += 3999) {
            SignMachine x = new SignMachine();
            Rig.put(x, place, 0, 0, 2, 5);
            x.go(place);
            Check.due("step()", x.step(), 1);
            Check.due("state(0)", x.state(0), place + 1);
            Check.due("step() behind it", x.step(), place == 0 ? 0 : 3);
        }
    }

    private static void stepThatCantBe() {
        Check.sentence("or 2 .. 5: it CAN'T BE");
        int[][] rows = {{0, 0, 6, 8, 2}, {4000, 0, 5, 8, 3}, {3, 0, 5, 9, 4}, {41, 0, 0, 35, 5}};
        for (int[] row : rows) {
            SignMachine x = new SignMachine();
            Rig.mem(x, 3, 4096);
            Rig.put(x, 7, row[0], row[1], row[2], row[3]);
            x.go(7);
            long[] before = Rig.all(x);
            Check.due("step()", x.step(), row[4]);
            Rig.dueSame("changing nothing", Rig.all(x), before);
            Check.due("state(6)", x.state(6), row[4]);
            Check.due("step() again", x.step(), row[4]);
        }
    }

    private static void runBounds() {
        Check.sentence("Up to n (1 .. 20,000) instructions");
        SignMachine x = new SignMachine();
        Rig.put(x, 9, 0, 0, 1, 39);
        Check.due("run(1)", x.run(1), 1);
        Check.due("state(0)", x.state(0), 1);
        Check.due("run(20000)", x.run(20000), 20000);
        Check.due("TIME", x.state(3), 20001);
        Check.due("run(19999)", x.run(19999), 19999);
        Check.due("TIME", x.state(3), 40000);
        Check.sentence("BAD: another n");
        for (int n : new int[] {0, -1, 20001, LEAST, MOST, -20000}) {
            Check.due("run(" + n + ")", x.run(n), -1);
            Check.due("TIME", x.state(3), 40000);
        }
    }

    private static void runUntilHalt() {
        Check.sentence("until one HALTS or CAN'T BE: how many were done, a HALT too");
        SignMachine x = new SignMachine();
        Rig.put(x, 0, 0, 0, 2, 5);
        Check.due("a HALT at once", x.run(20000), 1);
        Check.due("nothing behind it", x.state(0), 1);
        Rig.put(x, 4, 0, 0, 2, 5);
        Check.due("three and a HALT", x.run(20000), 4);
        Check.due("nothing behind it", x.state(0), 5);
        Check.due("TIME", x.state(3), 23);
        x.go(1);
        Check.due("as many as asked, the last one a HALT", x.run(4), 4);
        x.go(1);
        Check.due("one less", x.run(3), 3);
        Check.due("state(0)", x.state(0), 4);
    }

    private static void runUntilOneCantBe() {
        Check.sentence("until one HALTS or CAN'T BE: how many were done");
        SignMachine x = new SignMachine();
        Rig.put(x, 0, 0, 0, 6, 8);
        Check.due("at once", x.run(20000), 0);
        Check.due("state(0)", x.state(0), 0);
        Check.due("state(6)", x.state(6), 2);
        x.go(1);
        Check.due("up to the last word", x.run(20000), 3999);
        Check.due("state(0)", x.state(0), 4000);
        Check.due("state(6)", x.state(6), 3);
        Check.due("TIME", x.state(3), 3999);
        Check.due("again", x.run(1), 0);
        x.go(3998);
        Check.due("just the words that there are", x.run(2), 2);
        Check.due("state(6)", x.state(6), 0);
    }

    private static void registers() {
        SignMachine x = new SignMachine();
        for (int r = 0; r <= 7; r++) {
            x.set(r, 1, 10 + r);
        }
        x.set(8, 0, 18);
        Check.sentence("The sign of a register. BAD: none such");
        for (int r = 0; r <= 8; r++) {
            Check.due("registerSign(" + r + ")", x.registerSign(r), r == 8 ? 0 : 1);
        }
        for (int r : new int[] {-1, 9, LEAST, MOST}) {
            Check.due("registerSign(" + r + ")", x.registerSign(r), -1);
        }
        Check.sentence("Its size. BAD: none such");
        for (int r = 0; r <= 8; r++) {
            Check.due("registerSize(" + r + ")", x.registerSize(r), 10 + r);
        }
        for (int r : new int[] {-1, 9, LEAST, MOST}) {
            Check.due("registerSize(" + r + ")", x.registerSize(r), -1);
        }
    }

    private static void set() {
        Check.sentence("A register becomes (as poke()): false likewise");
        SignMachine x = new SignMachine();
        for (int r = 0; r <= 8; r++) {
            Check.due("set(" + r + ", 0, 0)", x.set(r, 0, 0), true);
            Check.due("set(" + r + ", 0, 5)", x.set(r, 0, 5), true);
            for (int sign : NO_SIGNS) {
                Check.due("set(" + r + ", " + sign + ", 7)", x.set(r, sign, 7), false);
            }
            for (int size : NO_SIZES) {
                Check.due("set(" + r + ", 0, " + size + ")", x.set(r, 0, size), false);
                Check.due("set(" + r + ", 1, " + size + ")", x.set(r, 1, size), false);
            }
            Rig.dueReg("as before", x, r, 0, 5);
        }
        for (int r : new int[] {-1, 9, LEAST, MOST}) {
            Check.due("set(" + r + ", 0, 7)", x.set(r, 0, 7), false);
        }
        for (int r = 0; r <= 8; r++) {
            Rig.dueReg("as before", x, r, 0, 5);
        }
        for (int r = 0; r <= 7; r += 7) {
            Check.due("set(" + r + ", 1, MAX)", x.set(r, 1, MAX), true);
            Rig.dueReg("five bytes", x, r, 1, MAX);
        }
    }

    private static void setShort() {
        Check.sentence("two bytes for I, J");
        SignMachine x = new SignMachine();
        for (int r = 1; r <= 8; r++) {
            if (r == 7) {
                continue;
            }
            Check.due("set(" + r + ", 0, 4095)", x.set(r, 0, 4095), true);
            Check.due("set(" + r + ", 0, 4096)", x.set(r, 0, 4096), false);
            Check.due("set(" + r + ", 0, MAX)", x.set(r, 0, MAX), false);
            Rig.dueReg("as before", x, r, 0, 4095);
            Check.due("set(" + r + ", 1, 4096)", x.set(r, 1, 4096), false);
            Rig.dueReg("as before", x, r, 0, 4095);
            Check.due("set(" + r + ", 1, 4095)", x.set(r, 1, 4095), r != 8);
            Rig.dueReg("two bytes", x, r, r == 8 ? 0 : 1, 4095);
        }
    }

    private static void setJ() {
        Check.sentence("J: - too");
        SignMachine x = new SignMachine();
        Check.due("set(8, 0, 3)", x.set(8, 0, 3), true);
        Check.due("set(8, 1, 0)", x.set(8, 1, 0), false);
        Check.due("set(8, 1, 4)", x.set(8, 1, 4), false);
        Rig.dueReg("as before", x, 8, 0, 3);
    }

    private static void stateNext() {
        Check.sentence("0 where the next instruction is (4000 behind the last word)");
        SignMachine x = new SignMachine();
        x.go(3998);
        x.step();
        Check.due("state(0)", x.state(0), 3999);
        x.step();
        Check.due("state(0)", x.state(0), 4000);
        x.step();
        Check.due("state(0)", x.state(0), 4000);
    }

    private static void stateToggleAndIndicator() {
        Check.sentence("1 the TOGGLE (1 on), 2 the INDICATOR (- 1, 0, 1)");
        SignMachine x = new SignMachine();
        Rig.mem(x, 100, MAX);
        int[] numbers = {-MAX, 0, MAX};
        for (int number : numbers) {
            Rig.reg(x, 0, number);
            Rig.mem(x, 101, 0);
            Check.due("COMPARE", Rig.does(x, 101, 0, 5, 56), 0);
            Check.due("state(2)", x.state(2), Integer.signum(number));
        }
        Check.due("state(1)", x.state(1), 0);
        Check.due("ADD", Rig.does(x, 100, 0, 5, 1), 0);
        Check.due("state(1)", x.state(1), 1);
    }

    private static void stateTapes() {
        Check.sentence("4 and 5 the blocks where tapes 0 and 1 stand");
        SignMachine x = new SignMachine();
        Check.due("WIND", Rig.does(x, 40, 0, 0, 35), 0);
        Check.due("state(4)", x.state(4), 40);
        Check.due("state(5)", x.state(5), 0);
        Check.due("WIND", Rig.does(x, 1, 0, 1, 35), 0);
        Check.due("state(4)", x.state(4), 40);
        Check.due("state(5)", x.state(5), 1);
    }

    private static void stateEnding() {
        Check.sentence("6 what the last step() or run() ended with (0 at first, and behind a run() that did all)");
        SignMachine x = new SignMachine();
        Check.due("at first", x.state(6), 0);
        Rig.put(x, 2, 0, 0, 2, 5);
        Rig.put(x, 4, 4000, 0, 0, 39);
        Check.due("run(2)", x.run(2), 2);
        Check.due("did all", x.state(6), 0);
        Check.due("run(2)", x.run(2), 1);
        Check.due("a HALT", x.state(6), 1);
        Check.due("run(1)", x.run(1), 1);
        Check.due("did all", x.state(6), 0);
        Check.due("run(1)", x.run(1), 0);
        Check.due("can't be", x.state(6), 3);
        Check.due("run(0)", x.run(0), -1);
        Check.due("go(2)", x.go(2), true);
        Check.due("poke", x.poke(3, 0, 0), true);
        Check.due("assemble()", x.assemble(), 6);
        Check.due("as before", x.state(6), 3);
        Check.due("step()", x.step(), 1);
        Check.due("a HALT", x.state(6), 1);
        Check.due("step()", x.step(), 0);
        Check.due("done", x.state(6), 0);
    }

    private static void stateNone() {
        Check.sentence("BAD (here - 2): another number");
        SignMachine x = new SignMachine();
        for (int what : new int[] {-1, 7, LEAST, MOST}) {
            Check.due("state(" + what + ")", x.state(what), -2);
        }
    }

    private static void go() {
        Check.sentence("The next instruction is at an address. False: none such");
        SignMachine x = new SignMachine();
        Check.due("go(3999)", x.go(3999), true);
        Check.due("state(0)", x.state(0), 3999);
        for (int address : NO_ADDRESSES) {
            Check.due("go(" + address + ")", x.go(address), false);
            Check.due("state(0)", x.state(0), 3999);
        }
        Check.due("go(0)", x.go(0), true);
        Check.due("state(0)", x.state(0), 0);
        x.go(3999);
        x.step();
        Check.due("go(5) from 4000", x.go(5), true);
        Check.due("step()", x.step(), 0);
        Check.due("state(0)", x.state(0), 6);
    }

    private static void tape() {
        SignMachine x = new SignMachine();
        int[] numbers = {MAX, -MAX, 1, -1};
        for (int i = 0; i < 4; i++) {
            Rig.mem(x, 100 + i, numbers[i]);
        }
        x.poke(199, 1, 0);
        Check.due("WIND", Rig.does(x, 39, 0, 1, 35), 0);
        Check.due("WRITE", Rig.does(x, 100, 0, 1, 37), 0);
        Check.sentence("Word k of a block of a tape: its size with its sign (- 0 is here - 1,073,741,824)");
        for (int i = 0; i < 4; i++) {
            Check.due("tape(1, 39, " + i + ")", x.tape(1, 39, i), numbers[i]);
        }
        Check.due("tape(1, 39, 98)", x.tape(1, 39, 98), 0);
        Check.due("tape(1, 39, 99)", x.tape(1, 39, 99), -1073741824);
        Check.due("tape(1, 38, 99)", x.tape(1, 38, 99), 0);
        Check.due("tape(0, 39, 99)", x.tape(0, 39, 99), 0);
        Check.due("tape(0, 0, 0)", x.tape(0, 0, 0), 0);
        Check.sentence("BAD (here - 2,000,000,000): none such");
        int[][] none = {{-1, 0, 0}, {2, 0, 0}, {0, -1, 0}, {0, 40, 0}, {1, 40, 0}, {1, -1, 99}, {0, 0, -1}, {0, 0, 100}, {1, 39, 100}, {1, 39, -1},
            {LEAST, 0, 0}, {MOST, 0, 0}, {0, LEAST, 0}, {0, MOST, 0}, {0, 0, LEAST}, {0, 0, MOST}};
        for (int[] n : none) {
            Check.due("tape(" + n[0] + ", " + n[1] + ", " + n[2] + ")", x.tape(n[0], n[1], n[2]), -2000000000);
        }
    }

    private static void feed() {
        Check.sentence("Twenty bytes come behind the text: how many it has");
        SignMachine x = new SignMachine();
        for (int i = 1; i <= 200; i++) {
            Check.due("feed " + i, x.feed(LEAST, MOST, -1, 0, i), 20 * i);
        }
        Check.due("about(2)", x.about(2), 4000);
    }

    private static void feedTooMuch() {
        Check.sentence("BAD, changing nothing: there would be more than 4,000");
        SignMachine x = new SignMachine();
        Rig.feed(x, " CON 1\n END 0\n");
        for (int i = 0; i < 199; i++) {
            x.feed(0, 0, 0, 0, 0);
        }
        Check.due("3,994 bytes", x.about(2), 3994);
        Check.due("feed", x.feed(1, 2, 3, 4, 5), -1);
        Check.due("about(2)", x.about(2), 3994);
        Check.due("end(7)", x.end(7), 3981);
        Check.due("feed: one byte too many", x.feed(1, 2, 3, 4, 5), -1);
        Check.due("about(2)", x.about(2), 3981);
        Check.due("end(19)", x.end(19), 3980);
        Check.due("feed: just as many", x.feed(1, 2, 3, 4, 5), 4000);
        Check.due("feed", x.feed(1, 2, 3, 4, 5), -1);
        Check.due("about(2)", x.about(2), 4000);
        Check.due("the text is still the same", x.assemble(), 0);
        Rig.dueMem("the text is still the same", x, 0, 0, 1);
    }

    private static void feedHighestFirst() {
        Check.sentence("the highest of each number first");
        SignMachine x = new SignMachine();
        x.feed(0x20414C46, 0x20414243, 0x44450A20, 0x454E4420, 0x300A0A0A);
        Check.due("assemble()", x.assemble(), 0);
        Rig.dueMem("ALF ABCDE", x, 0, 0, Rig.bytes(1, 2, 3, 4, 5));
        x.feed(0xC1C1C1C1, 0x0A0A0A0A, 0x0A0A0A0A, 0x0A0A0A0A, 0x0A0A0A0A);
        Check.due("a byte above 127 is not the one 128 below it", x.assemble(), 1);
    }

    private static void end() {
        Check.sentence("Of the last twenty bytes of the text the first n (0 .. 20) stay: how many it has");
        SignMachine x = new SignMachine();
        for (int n = 0; n <= 20; n++) {
            int before = x.about(2);
            x.feed(0x20202020, 0x20202020, 0x20202020, 0x20202020, 0x20202020);
            Check.due("end(" + n + ")", x.end(n), before + n);
            Check.due("about(2)", x.about(2), before + n);
        }
        SignMachine y = new SignMachine();
        Rig.feed(y, " CON 5\n END 0 REMARK $");
        y.feed(0x41414141, 0x41414141, 0x41414141, 0x41414141, 0x41414141);
        Check.due("end(0)", y.end(0), 22);
        Check.due("the first of them stay", y.end(11), 13);
        Check.due("assemble()", y.assemble(), 0);
        Rig.dueMem("CON 5", y, 0, 0, 5);
    }

    private static void endRefused() {
        Check.sentence("BAD: another n, or fewer than twenty are there");
        SignMachine x = new SignMachine();
        Check.due("end(0) of an empty text", x.end(0), -1);
        Check.due("end(20) of an empty text", x.end(20), -1);
        x.feed(0, 0, 0, 0, 0);
        for (int n : new int[] {-1, 21, LEAST, MOST}) {
            Check.due("end(" + n + ")", x.end(n), -1);
            Check.due("about(2)", x.about(2), 20);
        }
        Check.due("just twenty", x.end(19), 19);
        Check.due("nineteen", x.end(19), -1);
        Check.due("nineteen", x.end(0), -1);
        Check.due("about(2)", x.about(2), 19);
    }

    private static void assembleEmpties() {
        Check.sentence("The text, which is empty then");
        SignMachine x = new SignMachine();
        Check.due("a good one", Rig.assemble(x, " CON 1\n END 0"), 0);
        Check.due("about(2)", x.about(2), 0);
        Check.due("empty: no END", x.assemble(), 6);
        Check.due("one with a fault", Rig.assemble(x, " END 0\n"), 0);
        Check.due("one with a fault", Rig.assemble(x, " FOO\n END 0"), 2);
        Check.due("about(2)", x.about(2), 0);
        Check.due("empty: no END", x.assemble(), 6);
        Check.due("end(0)", x.end(0), -1);
        Check.due("feed", x.feed(0, 0, 0, 0, 0), 20);
    }

    private static void assembleStarts() {
        Check.sentence("becomes words: 0, and the next instruction is where it STARTS");
        SignMachine x = new SignMachine();
        x.go(77);
        Check.due("assemble()", Rig.assemble(x, " ORIG 3999\n HLT\n END 3999"), 0);
        Check.due("state(0)", x.state(0), 3999);
        Check.due("step()", x.step(), 1);
        Check.due("assemble()", Rig.assemble(x, " END 0"), 0);
        Check.due("state(0)", x.state(0), 0);
    }

    private static void assembleWithFault() {
        Check.sentence("or its fault, and nothing else changes");
        String[] texts = {" CON 5\nA$ NOP", " CON 5\n FOO", " CON 5\n CON L", " CON 5\n CON 1/0", " CON 5", " CON 5\n JMP 1F\n END 8", " CON 5\n LDA Y\nY EQU 4096\n END 8",
            " CON 5\n END 4000"};
        int[] faults = {1, 2, 3, 4, 6, 3, 4, 4};
        for (int i = 0; i < texts.length; i++) {
            SignMachine x = new SignMachine();
            x.poke(0, 1, 9);
            x.poke(1, 1, 8);
            for (int r = 0; r <= 8; r++) {
                x.set(r, r == 8 ? 0 : 1, 20 + r);
            }
            Check.due("WIND", Rig.does(x, 3, 0, 1, 35), 0);
            Check.due("HALT", Rig.does(x, 0, 0, 2, 5), 1);
            long[] before = Rig.all(x);
            Check.due("<" + texts[i] + ">", Rig.assemble(x, texts[i]), faults[i]);
            Rig.dueSame("<" + texts[i] + ">", Rig.all(x), before);
            Check.due("<" + texts[i] + ">: state(6)", x.state(6), 1);
            Rig.dueMem("<" + texts[i] + ">", x, 0, 1, 9);
            Rig.dueMem("<" + texts[i] + ">", x, 1, 1, 8);
        }
    }

    private static void aboutLine() {
        Check.sentence("0 the line (from 1) of the last fault of assemble() (0: none)");
        SignMachine x = new SignMachine();
        Check.due("at first", x.about(0), 0);
        Rig.assemble(x, " FOO\n END 0");
        Check.due("the first line", x.about(0), 1);
        Rig.assemble(x, "\n;\n NOP\n FOO");
        Check.due("the fourth line", x.about(0), 4);
        x.feed(0, 0, 0, 0, 0);
        x.end(0);
        Check.due("as before", x.about(0), 4);
        Rig.assemble(x, " END 0");
        Check.due("none", x.about(0), 0);
        Rig.assemble(x, "\n".repeat(3996) + " FOO");
        Check.due("the last of as many lines as can be", x.about(0), 3997);
    }

    private static void aboutPlace() {
        Check.sentence("1 the first place from which on LITERALS and names came (BAD without a good text)");
        SignMachine x = new SignMachine();
        Check.due("at first", x.about(1), -1);
        Rig.assemble(x, " END 9");
        Check.due("none came", x.about(1), 0);
        Rig.assemble(x, " ORIG 70\n LDA =1=\n LDA L\n END 9");
        Check.due("two came", x.about(1), 72);
        x.feed(0, 0, 0, 0, 0);
        x.end(0);
        Check.due("as before", x.about(1), 72);
        Rig.assemble(x, " ORIG 3999\n NOP\n END 9");
        Check.due("none can come", x.about(1), 4000);
        Rig.assemble(x, " ORIG 70\n LDA 1F\n END 9");
        Check.due("with a fault", x.about(1), -1);
        Rig.assemble(x, " ORIG 3\n END 9");
        Check.due("without one", x.about(1), 3);
        x.assemble();
        Check.due("an empty text", x.about(1), -1);
    }

    private static void aboutBytes() {
        Check.sentence("2 bytes of the text");
        SignMachine x = new SignMachine();
        Check.due("at first", x.about(2), 0);
        x.feed(0, 0, 0, 0, 0);
        Check.due("fed", x.about(2), 20);
        x.end(1);
        Check.due("ended", x.about(2), 1);
        x.assemble();
        Check.due("assembled", x.about(2), 0);
    }

    private static void aboutNone() {
        Check.sentence("BAD: another number");
        SignMachine x = new SignMachine();
        for (int what : new int[] {-1, 3, LEAST, MOST}) {
            Check.due("about(" + what + ")", x.about(what), -1);
        }
    }
}
