/**
 * A machine of words with a sign and five bytes of six bits, and a text that becomes words of it.
 * What each call promises is told in the document DOC.md; the numbers of operations below are its C.
 */
public final class SignMachine {
    public static final int BAD = -1, NONE = -2;

    private static final int WORDS = 4000;
    private static final int NO_TAPE_WORD = -2_000_000_000;
    private static final int MINUS_ZERO_ON_TAPE = -1_073_741_824;
    private static final int MOST_STEPS = 20_000;

    private final Machine machine;
    private Assembler assembler;

    public SignMachine() {
        machine = new Machine();
    }

    public boolean poke(int address, int sign, int size) {
        if (!Machine.isAddress(address) || !Word.isWord(sign, size)) {
            return false;
        }
        machine.putWord(address, Word.make(sign, size));
        return true;
    }

    public int peekSign(int address) {
        return Machine.isAddress(address) ? Word.sign(machine.wordAt(address)) : BAD;
    }

    public int peekSize(int address) {
        return Machine.isAddress(address) ? Word.size(machine.wordAt(address)) : BAD;
    }

    public int step() {
        machine.ending = machine.execute();
        return machine.ending;
    }

    public int run(int n) {
        if (n < 1 || n > MOST_STEPS) {
            return BAD;
        }
        int done = 0;
        int ending = Machine.DONE;
        for (int i = 0; i < n && ending == Machine.DONE; i++) {
            ending = machine.execute();
            if (ending <= Machine.HALTED) {
                done++;
            }
        }
        machine.ending = ending;
        return done;
    }

    public int registerSign(int r) {
        return Machine.isRegister(r) ? Word.sign(machine.register(r)) : BAD;
    }

    public int registerSize(int r) {
        return Machine.isRegister(r) ? Word.size(machine.register(r)) : BAD;
    }

    public boolean set(int r, int sign, int size) {
        if (!Machine.isRegister(r) || !Word.isWord(sign, size)) {
            return false;
        }
        if (Machine.isShort(r) && size > Word.GREATEST_SHORT) {
            return false;
        }
        if (r == Machine.J && sign != 0) {
            return false;
        }
        machine.putRegister(r, Word.make(sign, size));
        return true;
    }

    public int state(int what) {
        switch (what) {
            case 0: return machine.next;
            case 1: return machine.toggle ? 1 : 0;
            case 2: return machine.indicator;
            case 3: return machine.time;
            case 4: return machine.unit(0).place;
            case 5: return machine.unit(1).place;
            case 6: return machine.ending;
            default: return NONE;
        }
    }

    public boolean go(int address) {
        if (!Machine.isAddress(address)) {
            return false;
        }
        machine.next = address;
        return true;
    }

    public int tape(int unit, int block, int k) {
        if (unit < 0 || unit > 1 || !Tape.isWord(block, k)) {
            return NO_TAPE_WORD;
        }
        int word = machine.unit(unit).wordAt(block, k);
        return word == Word.MINUS_ZERO ? MINUS_ZERO_ON_TAPE : Word.number(word);
    }

    public int feed(int a, int b, int c, int d, int e) {
        Source source = assembler().source;
        if (!source.hasRoom()) {
            return BAD;
        }
        source.append(a);
        source.append(b);
        source.append(c);
        source.append(d);
        source.append(e);
        return source.length;
    }

    public int end(int n) {
        Source source = assembler().source;
        if (n < 0 || n > Source.FED || source.length < Source.FED) {
            return BAD;
        }
        source.length = source.length - Source.FED + n;
        return source.length;
    }

    public int assemble() {
        Assembler reader = assembler();
        reader.begin();
        for (int i = 0; i < Source.MOST && reader.hasLine(); i++) {
            reader.takeHead();
            reader.takeArgument();
            reader.leaveLine();
        }
        reader.finish();
        if (reader.fault == 0) {
            load(reader.output);
            machine.next = reader.start;
        }
        return reader.fault;
    }

    public int about(int what) {
        Assembler reader = assembler();
        switch (what) {
            case 0: return reader.faultLine;
            case 1: return reader.firstFree;
            case 2: return reader.source.length;
            default: return BAD;
        }
    }

    private void load(Output output) {
        for (int i = 0; i < output.count; i++) {
            machine.putWord(output.placeOf(i), output.wordOf(i));
        }
    }

    /** Made at its first use: an object that is never fed a text does without the rows for one. */
    private Assembler assembler() {
        if (assembler == null) {
            assembler = new Assembler();
        }
        return assembler;
    }

    /** A word is one int: the sign is bit 30, the size is below it. */
    private static final class Word {
        static final int BYTE_BITS = 6;
        static final int BYTES = 5;
        static final int LIMIT = 1 << 30;
        static final int GREATEST = LIMIT - 1;
        static final int GREATEST_SHORT = 4095;
        static final int MINUS_ZERO = LIMIT;
        static final int WHOLE = 5;

        static boolean isWord(int sign, int size) {
            return (sign == 0 || sign == 1) && size >= 0 && size <= GREATEST;
        }

        static int make(int sign, int size) {
            return sign == 0 ? size : size | LIMIT;
        }

        static int sign(int word) {
            return (word & LIMIT) == 0 ? 0 : 1;
        }

        static int size(int word) {
            return word & GREATEST;
        }

        static int number(int word) {
            return (word & LIMIT) == 0 ? word & GREATEST : -(word & GREATEST);
        }

        static int opposite(int word) {
            return word ^ LIMIT;
        }

        /** The number's word; a number alone does not tell the sign of 0. */
        static int of(int number, int signOfZero) {
            if (number == 0) {
                return make(signOfZero, 0);
            }
            return number > 0 ? number : make(1, -number);
        }

        static boolean isField(int f) {
            int left = f >> 3;
            int right = f & 7;
            return f >= 0 && left <= right && right <= BYTES;
        }

        /** The bits of a field's bytes, at the right end. */
        private static int maskOf(int f) {
            int left = f >> 3;
            int right = f & 7;
            int bytes = left == 0 ? right : right - left + 1;
            return (1 << BYTE_BITS * bytes) - 1;
        }

        private static int bitsBehind(int f) {
            return BYTE_BITS * (BYTES - (f & 7));
        }

        static int field(int word, int f) {
            int size = size(word) >> bitsBehind(f) & maskOf(f);
            return f >> 3 == 0 ? make(sign(word), size) : size;
        }

        static int store(int word, int value, int f) {
            int mask = maskOf(f);
            int behind = bitsBehind(f);
            int size = size(word) & ~(mask << behind) | (value & mask) << behind;
            return make(f >> 3 == 0 ? sign(value) : sign(word), size);
        }
    }

    /** A tape and the block where it stands. */
    private static final class Tape {
        static final int BLOCKS = 40;
        static final int BLOCK_WORDS = 100;

        private int place;
        private int[] words;

        static boolean isWord(int block, int k) {
            return block >= 0 && block < BLOCKS && k >= 0 && k < BLOCK_WORDS;
        }

        int wordAt(int block, int k) {
            return words != null && isWord(block, k) ? words[block * BLOCK_WORDS + k] : 0;
        }

        /** The row is made by the first word written: most tapes are never written. */
        void putWord(int block, int k, int word) {
            if (words == null) {
                words = new int[BLOCKS * BLOCK_WORDS];
            }
            if (isWord(block, k)) {
                words[block * BLOCK_WORDS + k] = word;
            }
        }
    }

    /** Memory, registers, toggle, indicator, tapes and time; and what instructions do to them. */
    private static final class Machine {
        static final int DONE = 0, HALTED = 1;
        static final int BAD_SHAPE = 2, BAD_ADDRESS = 3, BAD_INDEX = 4, BAD_BLOCK = 5;
        static final int A = 0, I1 = 1, I6 = 6, X = 7, J = 8;
        private static final int REGISTERS = 9;
        private static final int TIME_MASK = (1 << 30) - 1;
        private static final int AX_BITS = 60, AX_BYTES = 10;
        private static final int CODE_OF_ZERO = 30;

        private final int[] memory = new int[WORDS];
        private final int[] registers = new int[REGISTERS];
        private final Tape firstTape = new Tape();
        private final Tape secondTape = new Tape();
        private boolean toggle;
        private int indicator;
        private int time;
        private int next;
        private int ending;
        /* The instruction at hand: C, F, INDEX, M, and the sign that M has if it is 0. */
        private int code;
        private int field;
        private int index;
        private int m;
        private int signOfZero;

        static boolean isAddress(int address) {
            return address >= 0 && address < WORDS;
        }

        static boolean isRegister(int r) {
            return r >= 0 && r < REGISTERS;
        }

        static boolean isIndex(int r) {
            return r >= I1 && r <= I6;
        }

        static boolean isShort(int r) {
            return isIndex(r) || r == J;
        }

        int wordAt(int address) {
            return address >= 0 && address < WORDS ? memory[address] : 0;
        }

        void putWord(int address, int word) {
            if (address >= 0 && address < WORDS) {
                memory[address] = word;
            }
        }

        int register(int r) {
            return r >= 0 && r < REGISTERS ? registers[r] : 0;
        }

        void putRegister(int r, int word) {
            if (r >= 0 && r < REGISTERS) {
                registers[r] = word;
            }
        }

        Tape unit(int f) {
            return f == 0 ? firstTape : secondTape;
        }

        /** One instruction: DONE, HALTED, or why it can't be (and then nothing has changed). */
        int execute() {
            if (!isAddress(next)) {
                return BAD_ADDRESS;
            }
            decode(wordAt(next));
            int reason = reasonAgainst();
            if (reason != 0) {
                return reason;
            }
            time = time + duration() & TIME_MASK;
            next++;
            perform();
            return code == 5 && field == 2 ? HALTED : DONE;
        }

        private void decode(int word) {
            int size = Word.size(word);
            code = size & 63;
            field = size >> 6 & 63;
            index = size >> 12 & 63;
            signOfZero = Word.sign(word);
            int address = size >> 18;
            m = signOfZero == 0 ? address : -address;
            if (isIndex(index)) {
                m += Word.number(register(index));
            }
        }

        private int reasonAgainst() {
            if (!shapeCanBe()) {
                return BAD_SHAPE;
            }
            if (!addressCanBe()) {
                return BAD_ADDRESS;
            }
            if (!indexCanBe()) {
                return BAD_INDEX;
            }
            return blockCanBe() ? 0 : BAD_BLOCK;
        }

        private boolean hasFieldOfWord() {
            return code >= 1 && code <= 4 || code >= 8 && code <= 33 || code >= 56;
        }

        private boolean shapeCanBe() {
            if (index > I6) {
                return false;
            }
            if (hasFieldOfWord()) {
                return Word.isField(field);
            }
            switch (code) {
                case 0: case 7: return true;
                case 5: return field <= 2;
                case 6: return field <= 5;
                case 34: case 35: case 36: case 37: case 38: return field <= 1;
                case 39: return field <= 9;
                default: return field <= (code <= 47 ? 5 : 3);
            }
        }

        private boolean addressCanBe() {
            if (hasFieldOfWord()) {
                return isAddress(m);
            }
            switch (code) {
                case 0: case 5: case 35: return true;
                case 6: return m >= 0;
                case 7: return canMove();
                case 36: case 37: return hasWords(m, Tape.BLOCK_WORDS);
                default: return code >= 48 || isAddress(m);
            }
        }

        private boolean canMove() {
            return field == 0 || hasWords(m, field) && hasWords(Word.number(register(I1)), field);
        }

        private static boolean hasWords(int from, int many) {
            return from >= 0 && from + many <= WORDS;
        }

        /** MOVE is not asked: its last word is 3999 at most, and so I1 becomes 4000 at most. */
        private boolean indexCanBe() {
            if (!isIndex(code & 7)) {
                return true;
            }
            switch (code >> 3) {
                case 1: case 2: return Word.size(value()) <= Word.GREATEST_SHORT;
                case 6: return Math.abs(numberByAddress()) <= Word.GREATEST_SHORT;
                default: return true;
            }
        }

        private boolean blockCanBe() {
            if (code < 35 || code > 37) {
                return true;
            }
            int place = unit(field).place;
            if (code != 35) {
                return place < Tape.BLOCKS;
            }
            return m == 0 || place + m >= 0 && place + m <= Tape.BLOCKS;
        }

        private int duration() {
            if (hasFieldOfWord()) {
                return code == 3 ? 10 : code == 4 ? 12 : 2;
            }
            switch (code) {
                case 5: return 10;
                case 6: return 2;
                case 7: return 1 + 2 * field;
                default: return 1;
            }
        }

        private int value() {
            return Word.field(wordAt(m), field);
        }

        private void perform() {
            switch (code >> 3) {
                case 0: performLow(); break;
                case 1: putRegister(code & 7, value()); break;
                case 2: putRegister(code & 7, Word.opposite(value())); break;
                case 3: storeWord(register(code & 7)); break;
                case 4: performMiddle(); break;
                case 5: goIf(registerIs(Word.number(register(code & 7)))); break;
                case 6: changeByAddress(code & 7); break;
                default: compareField(register(code & 7)); break;
            }
        }

        private void performLow() {
            switch (code) {
                case 1: addTo(A, Word.number(value())); break;
                case 2: addTo(A, -Word.number(value())); break;
                case 3: multiply(value()); break;
                case 4: divide(value()); break;
                case 5: convert(); break;
                case 6: shift(); break;
                case 7: moveWords(); break;
                default: break;
            }
        }

        private void performMiddle() {
            switch (code) {
                case 32: storeWord(register(J)); break;
                case 33: storeWord(0); break;
                case 35: wind(); break;
                case 36: readBlock(); break;
                case 37: writeBlock(); break;
                case 38: goIf(true); break;
                case 39: goByState(); break;
                default: break;
            }
        }

        /** Two sizes below 64 to the 5th have a sum that an int holds. */
        private void addTo(int r, int amount) {
            int before = register(r);
            int sum = Word.number(before) + amount;
            if (Math.abs(sum) > Word.GREATEST) {
                toggle = true;
                sum = sum > 0 ? sum - Word.LIMIT : sum + Word.LIMIT;
            }
            putRegister(r, Word.of(sum, Word.sign(before)));
        }

        private long sizeOfAX() {
            return (long) Word.size(register(A)) << 30 | Word.size(register(X));
        }

        /** Signs stay; what is beyond ten bytes is lost. */
        private void putSizesOfAX(long size) {
            int high = (int) (size >> 30) & Word.GREATEST;
            int low = (int) size & Word.GREATEST;
            putRegister(A, Word.make(Word.sign(register(A)), high));
            putRegister(X, Word.make(Word.sign(register(X)), low));
        }

        private void multiply(int factor) {
            int a = register(A);
            long product = (long) Word.size(a) * Word.size(factor);
            int sign = Word.sign(a) ^ Word.sign(factor);
            putRegister(A, Word.make(sign, (int) (product >> 30)));
            putRegister(X, Word.make(sign, (int) product & Word.GREATEST));
        }

        private void divide(int divisor) {
            int a = register(A);
            int by = Word.size(divisor);
            if (by == 0 || Word.size(a) >= by) {
                toggle = true;
                return;
            }
            long dividend = sizeOfAX();
            putRegister(A, Word.make(Word.sign(a) ^ Word.sign(divisor), (int) (dividend / by)));
            putRegister(X, Word.make(Word.sign(a), (int) (dividend % by)));
        }

        private void convert() {
            if (field == 0) {
                becomeNumber();
            } else if (field == 1) {
                becomeDigits();
            }
        }

        private void becomeNumber() {
            long bytes = sizeOfAX();
            long number = 0;
            for (int i = AX_BYTES - 1; i >= 0; i--) {
                number = number * 10 + (bytes >> Word.BYTE_BITS * i & 63) % 10;
            }
            if (number > Word.GREATEST) {
                toggle = true;
            }
            int size = (int) (number % Word.LIMIT);
            putRegister(A, Word.make(Word.sign(register(A)), size));
        }

        private void becomeDigits() {
            int rest = Word.size(register(A));
            long bytes = 0;
            for (int i = 0; i < AX_BYTES; i++) {
                bytes |= (long) (CODE_OF_ZERO + rest % 10) << Word.BYTE_BITS * i;
                rest /= 10;
            }
            putSizesOfAX(bytes);
        }

        private void shift() {
            if (field <= 1) {
                int bits = Word.BYTE_BITS * Math.min(m, Word.BYTES);
                long size = Word.size(register(A));
                size = field == 0 ? size << bits : size >> bits;
                putRegister(A, Word.make(Word.sign(register(A)), (int) size & Word.GREATEST));
                return;
            }
            int bits = Word.BYTE_BITS * Math.min(m, AX_BYTES);
            int around = Word.BYTE_BITS * (m % AX_BYTES);
            long both = sizeOfAX();
            switch (field) {
                case 2: both = both << bits; break;
                case 3: both = both >> bits; break;
                case 4: both = both << around | both >> AX_BITS - around; break;
                default: both = both >> around | both << AX_BITS - around; break;
            }
            putSizesOfAX(both);
        }

        private void moveWords() {
            int to = Word.number(register(I1));
            for (int i = 0; i < field; i++) {
                putWord(to + i, wordAt(m + i));
            }
            addTo(I1, field);
        }

        private void storeWord(int from) {
            putWord(m, Word.store(wordAt(m), from, field));
        }

        private void wind() {
            Tape tape = unit(field);
            tape.place = m == 0 ? 0 : tape.place + m;
        }

        private void readBlock() {
            Tape tape = unit(field);
            for (int k = 0; k < Tape.BLOCK_WORDS; k++) {
                putWord(m + k, tape.wordAt(tape.place, k));
            }
            tape.place++;
        }

        private void writeBlock() {
            Tape tape = unit(field);
            for (int k = 0; k < Tape.BLOCK_WORDS; k++) {
                tape.putWord(tape.place, k, wordAt(m + k));
            }
            tape.place++;
        }

        /** The next instruction is by now the one behind: what J is told. */
        private void goIf(boolean goes) {
            if (goes) {
                putRegister(J, next);
                next = m;
            }
        }

        private void goByState() {
            boolean wasOn = toggle;
            switch (field) {
                case 0: goIf(true); break;
                case 1: next = m; break;
                case 2: toggle = false; goIf(wasOn); break;
                case 3: toggle = false; goIf(!wasOn); break;
                case 4: goIf(indicator < 0); break;
                case 5: goIf(indicator == 0); break;
                case 6: goIf(indicator > 0); break;
                case 7: goIf(indicator >= 0); break;
                case 8: goIf(indicator != 0); break;
                default: goIf(indicator <= 0); break;
            }
        }

        private boolean registerIs(int number) {
            switch (field) {
                case 0: return number < 0;
                case 1: return number == 0;
                case 2: return number > 0;
                case 3: return number >= 0;
                case 4: return number != 0;
                default: return number <= 0;
            }
        }

        private int numberByAddress() {
            int before = Word.number(register(code & 7));
            switch (field) {
                case 0: return before + m;
                case 1: return before - m;
                case 2: return m;
                default: return -m;
            }
        }

        private void changeByAddress(int r) {
            switch (field) {
                case 0: addTo(r, m); break;
                case 1: addTo(r, -m); break;
                case 2: putRegister(r, Word.of(m, signOfZero)); break;
                default: putRegister(r, Word.opposite(Word.of(m, signOfZero))); break;
            }
        }

        private void compareField(int from) {
            indicator = Integer.compare(Word.number(Word.field(from, field)), Word.number(value()));
        }
    }

    /** The operations of a text by name; ? stands for a register. */
    private enum Op {
        NOP("NOP", 0, 0), ADD("ADD", 1, 5), SUB("SUB", 2, 5), MUL("MUL", 3, 5), DIV("DIV", 4, 5),
        NUM("NUM", 5, 0), CHAR("CHAR", 5, 1), HLT("HLT", 5, 2),
        SLA("SLA", 6, 0), SRA("SRA", 6, 1), SLAX("SLAX", 6, 2), SRAX("SRAX", 6, 3),
        SLC("SLC", 6, 4), SRC("SRC", 6, 5), MOVE("MOVE", 7, 1),
        LD("LD?", 8, 5), LDN("LD?N", 16, 5), ST("ST?", 24, 5), STJ("STJ", 32, 2), STZ("STZ", 33, 5),
        JBUS("JBUS", 34, 0), IOC("IOC", 35, 0), IN("IN", 36, 0), OUT("OUT", 37, 0), JRED("JRED", 38, 0),
        JMP("JMP", 39, 0), JSJ("JSJ", 39, 1), JOV("JOV", 39, 2), JNOV("JNOV", 39, 3),
        JL("JL", 39, 4), JE("JE", 39, 5), JG("JG", 39, 6),
        JGE("JGE", 39, 7), JNE("JNE", 39, 8), JLE("JLE", 39, 9),
        JN("J?N", 40, 0), JZ("J?Z", 40, 1), JP("J?P", 40, 2),
        JNN("J?NN", 40, 3), JNZ("J?NZ", 40, 4), JNP("J?NP", 40, 5),
        INC("INC?", 48, 0), DEC("DEC?", 48, 1), ENT("ENT?", 48, 2), ENN("ENN?", 48, 3),
        CMP("CMP?", 56, 5),
        EQU("EQU", -1, 0), ORIG("ORIG", -1, 0), CON("CON", -1, 0), ALF("ALF", -1, 0), END("END", -1, 0);

        private static final Op[] ALL = values();
        private static final String REGISTERS = "A123456X";

        private final String pattern;
        private final int code;
        private final int field;

        Op(String pattern, int code, int field) {
            this.pattern = pattern;
            this.code = code;
            this.field = field;
        }

        /** The operation whose name stands in the line from here up to there, or null. */
        static Op find(Source source, int from, int to) {
            for (int i = 0; i < ALL.length; i++) {
                if (ALL[i].fits(source, from, to)) {
                    return ALL[i];
                }
            }
            return null;
        }

        private boolean fits(Source source, int from, int to) {
            if (to - from != pattern.length()) {
                return false;
            }
            for (int i = 0; i < pattern.length(); i++) {
                int wanted = pattern.charAt(i);
                int there = source.byteAt(from + i);
                if (wanted == '?' ? REGISTERS.indexOf((char) there) < 0 : wanted != there) {
                    return false;
                }
            }
            return true;
        }

        /** C, with the register that stands where the pattern has its ?. */
        int codeIn(Source source, int from) {
            int where = pattern.indexOf('?');
            if (where < 0) {
                return code;
            }
            return code + Math.max(0, REGISTERS.indexOf((char) source.byteAt(from + where)));
        }
    }

    /** The text, and the reading of it: line by line, and in a line byte by byte. */
    private static final class Source {
        static final int MOST = 4000, FED = 20;
        static final int LINE_END = -1;
        static final int NOTHING = 0, NUMBER = 1, NAME = 2, STAR = 3, TOO_LONG = 4;
        private static final int MOST_IN_NAME = 8, MOST_IN_NUMBER = 10;

        private final byte[] bytes = new byte[MOST];
        private int length;
        private int line;
        private int at;
        private int stop;
        private int following;
        /* The token read last: what it is, and its name or number. */
        private int kind;
        private long name;
        private int number;

        boolean hasRoom() {
            return length + FED <= MOST;
        }

        void append(int four) {
            for (int shift = 24; shift >= 0; shift -= 8) {
                if (length >= 0 && length < MOST) {
                    bytes[length] = (byte) (four >> shift);
                    length++;
                }
            }
        }

        void begin() {
            line = 0;
            following = 0;
        }

        boolean hasLine() {
            return following < length;
        }

        void nextLine() {
            line++;
            at = following;
            stop = at;
            for (int i = 0; i < MOST && stop < length && byteAt(stop) != '\n'; i++) {
                stop++;
            }
            following = stop + 1;
        }

        int byteAt(int where) {
            return where >= 0 && where < MOST ? bytes[where] & 255 : 0;
        }

        int peek() {
            return at >= 0 && at < stop && at < MOST ? bytes[at] & 255 : LINE_END;
        }

        void skip() {
            at++;
        }

        /** Whether the byte is the given one; then it is passed. */
        boolean takes(int wanted) {
            if (peek() != wanted) {
                return false;
            }
            at++;
            return true;
        }

        void skipBlanks() {
            for (int i = 0; i < MOST && peek() == ' '; i++) {
                at++;
            }
        }

        void skipToBlank() {
            for (int i = 0; i < MOST && peek() != ' ' && peek() != LINE_END; i++) {
                at++;
            }
        }

        /** A * or a run of letters and digits; of a run that is too long only the beginning. */
        void readToken() {
            if (peek() == '*') {
                at++;
                kind = STAR;
                return;
            }
            int many = 0;
            long read = 0;
            long digits = 0;
            boolean letters = false;
            int code = Names.codeOf(peek());
            for (int i = 0; i <= MOST_IN_NUMBER && code != 0; i++) {
                many++;
                read = read << 6 | code;
                letters = letters || Names.isLetter(code);
                digits = digits * 10 + (Names.isLetter(code) ? 0 : Names.digitOf(code));
                at++;
                code = Names.codeOf(peek());
            }
            kind = many == 0 ? NOTHING : letters ? NAME : NUMBER;
            if (many > (letters ? MOST_IN_NAME : MOST_IN_NUMBER)) {
                kind = TOO_LONG;
            }
            name = read;
            number = (int) (digits & Word.GREATEST);
        }
    }

    /**
     * SYMBOLS and LITERALS in the order in which each first stood, and the LOCAL labels.
     * A name is a number: six bits for each of its letters and digits; a LITERAL has the name 0.
     */
    private static final class Names {
        private static final int MOST_SYMBOLS = 60, MOST_LITERALS = 40;
        private static final int MOST = MOST_SYMBOLS + MOST_LITERALS;
        private static final int FIRST_DIGIT = 27, DIGITS = 10;
        static final int B = 2, F = 6, H = 8;

        private final long[] names = new long[MOST];
        private final int[] values = new int[MOST];
        private final boolean[] told = new boolean[MOST];
        private final int[] localValues = new int[DIGITS];
        private final boolean[] localTold = new boolean[DIGITS];
        private int count;
        private int symbols;

        static int codeOf(int c) {
            if (c >= 'A' && c <= 'Z') {
                return c - 'A' + 1;
            }
            return c >= '0' && c <= '9' ? c - '0' + FIRST_DIGIT : 0;
        }

        static boolean isLetter(int code) {
            return code > 0 && code < FIRST_DIGIT;
        }

        static int digitOf(int code) {
            return code - FIRST_DIGIT;
        }

        /** The digit of a LOCAL name with this letter (B, F or H), or NONE for any other name. */
        static int localDigit(long name, int letter) {
            long digit = (name >> 6) - FIRST_DIGIT;
            boolean local = (name & 63) == letter && digit >= 0 && digit < DIGITS;
            return local ? (int) digit : NONE;
        }

        void clear() {
            count = 0;
            symbols = 0;
            for (int i = 0; i < DIGITS; i++) {
                localTold[i] = false;
            }
        }

        int find(long name) {
            for (int i = 0; i < count && i < MOST; i++) {
                if (names[i] == name) {
                    return i;
                }
            }
            return NONE;
        }

        /** Where a new SYMBOL, not told so far, stands from now on; NONE if there are too many. */
        int addSymbol(long name) {
            if (symbols >= MOST_SYMBOLS) {
                return NONE;
            }
            symbols++;
            return add(name, 0);
        }

        /** Likewise a LITERAL; its word is its value until it has a place. */
        int addLiteral(int word) {
            return count - symbols >= MOST_LITERALS ? NONE : add(0, word);
        }

        private int add(long name, int value) {
            if (count < 0 || count >= MOST) {
                return NONE;
            }
            names[count] = name;
            values[count] = value;
            told[count] = false;
            count++;
            return count - 1;
        }

        int valueOf(int i) {
            return i >= 0 && i < MOST ? values[i] : 0;
        }

        boolean isTold(int i) {
            return i >= 0 && i < MOST && told[i];
        }

        void tell(int i, int value) {
            if (i >= 0 && i < MOST) {
                values[i] = value;
                told[i] = true;
            }
        }

        boolean isLocalTold(int digit) {
            return digit >= 0 && digit < DIGITS && localTold[digit];
        }

        int localValue(int digit) {
            return digit >= 0 && digit < DIGITS ? localValues[digit] : 0;
        }

        void tellLocal(int digit, int value) {
            if (digit >= 0 && digit < DIGITS) {
                localValues[digit] = value;
                localTold[digit] = true;
            }
        }
    }

    /** The words that a text becomes, some with an address that is open until the text's end. */
    private static final class Output {
        static final int CLOSED = 0, BY_NAME = 1, BY_LOCAL = 2, BY_NUMBER = 3;
        /* A line with a word has four bytes at least, its end being one. */
        private static final int MOST = Source.MOST / 4 + 1 + Names.MOST;

        private final int[] places = new int[MOST];
        private final int[] words = new int[MOST];
        private final int[] lines = new int[MOST];
        private final byte[] kinds = new byte[MOST];
        /* By kind: the name's place in Names; the word before that is open for the same LOCAL; the number. */
        private final int[] goals = new int[MOST];
        private final int[] lastOpen = new int[Names.DIGITS];
        private int count;

        void clear() {
            count = 0;
            for (int i = 0; i < lastOpen.length; i++) {
                lastOpen[i] = NONE;
            }
        }

        void add(int place, int word, int line, int kind, int goal) {
            if (count < 0 || count >= MOST) {
                return;
            }
            places[count] = place;
            words[count] = word;
            lines[count] = line;
            kinds[count] = (byte) kind;
            goals[count] = goal;
            if (kind == BY_LOCAL && goal >= 0 && goal < lastOpen.length) {
                goals[count] = lastOpen[goal];
                lastOpen[goal] = count;
            }
            count++;
        }

        /** A LOCAL label: all words that wait for it have its value from now on. */
        void closeLocal(int digit, int value) {
            if (digit < 0 || digit >= lastOpen.length) {
                return;
            }
            int i = lastOpen[digit];
            for (int turn = 0; turn < MOST && isWord(i); turn++) {
                int before = goals[i];
                kinds[i] = BY_NUMBER;
                goals[i] = value;
                i = before;
            }
            lastOpen[digit] = NONE;
        }

        private static boolean isWord(int i) {
            return i >= 0 && i < MOST;
        }

        int placeOf(int i) {
            return isWord(i) ? places[i] : NONE;
        }

        int wordOf(int i) {
            return isWord(i) ? words[i] : 0;
        }

        int lineOf(int i) {
            return isWord(i) ? lines[i] : 0;
        }

        int kindOf(int i) {
            return isWord(i) ? kinds[i] : CLOSED;
        }

        int goalOf(int i) {
            return isWord(i) ? goals[i] : NONE;
        }

        void putAddress(int i, int address) {
            if (isWord(i)) {
                words[i] |= Assembler.addressPart(address);
            }
        }
    }

    /** Reads a text: at the end its words are in the output, or its first fault is told. */
    private static final class Assembler {
        private static final int BAD_TEXT = 1, BAD_OP = 2, BAD_NAME = 3, BAD_NUMBER = 4, TOO_MANY = 5, NO_END = 6;
        private static final int MOST_ADDRESS = 4095, MOST_INDEX = 6, MOST_FIELD = 63;
        private static final String CODES = " ABCDEFGHI~JKLMNOPQR[#STUVWXYZ0123456789.,()+-*/=$<>@;:'";

        private final Source source = new Source();
        private final Names names = new Names();
        private final Output output = new Output();
        private int fault;
        private int faultLine;
        private int firstFree = BAD;
        private int start;
        private int place;
        private boolean ended;
        /* The line at hand: its label or 0, what that is, its operation or null, and C. */
        private long label;
        private int labelValue;
        private Op op;
        private int code;
        /* The address at hand, if it is open: see Output. */
        private int kind;
        private int goal;

        void begin() {
            source.begin();
            names.clear();
            output.clear();
            fault = 0;
            faultLine = 0;
            place = 0;
            ended = false;
        }

        boolean hasLine() {
            return fault == 0 && !ended && source.hasLine();
        }

        /** A line's LABEL and OP; without an OP there is no argument to take. */
        void takeHead() {
            op = null;
            label = 0;
            source.nextLine();
            if (isNothing()) {
                return;
            }
            readLabel();
            source.skipBlanks();
            if (source.peek() == Source.LINE_END) {
                fail(BAD_TEXT);
            }
            if (fault == 0) {
                readOp();
            }
            if (fault == 0 && op != Op.EQU) {
                tellLabel(place);
            }
        }

        void takeArgument() {
            if (fault != 0 || op == null) {
                return;
            }
            if (op == Op.ALF) {
                takeCharacters();
                return;
            }
            source.skipBlanks();
            if (op.code >= 0) {
                takeOperation(op.field);
                return;
            }
            int word = readW();
            expectEnd();
            if (fault != 0) {
                return;
            }
            if (op == Op.EQU) {
                tellLabel(Word.number(word));
            } else if (op == Op.CON) {
                putWord(word);
            } else {
                takePlace(Word.number(word));
            }
        }

        /** The lines behind this one may ask for its LOCAL label; its own argument did not. */
        void leaveLine() {
            names.tellLocal(Names.localDigit(label, Names.H), labelValue);
        }

        /** What can be asked only at the end: an END, and the addresses that were open. */
        void finish() {
            source.length = 0;
            if (fault == 0 && !ended) {
                fail(NO_END);
            }
            for (int i = 0; i < output.count && fault == 0; i++) {
                close(i);
            }
            if (fault != 0) {
                firstFree = BAD;
            }
        }

        private void close(int i) {
            int open = output.kindOf(i);
            if (open == Output.CLOSED) {
                return;
            }
            int address = output.goalOf(i);
            if (open == Output.BY_NAME) {
                address = names.valueOf(address);
            }
            if (open == Output.BY_LOCAL) {
                fault = BAD_NAME;
                faultLine = output.lineOf(i);
            } else if (Math.abs(address) > MOST_ADDRESS) {
                fault = BAD_NUMBER;
                faultLine = output.lineOf(i);
            } else {
                output.putAddress(i, address);
            }
        }

        static int addressPart(int address) {
            return Word.make(address < 0 ? 1 : 0, (Math.abs(address) & MOST_ADDRESS) << 18);
        }

        /** Later faults do not count. The answer is for those who owe a number. */
        private int fail(int why) {
            if (fault == 0) {
                fault = why;
                faultLine = source.line;
            }
            return 0;
        }

        private boolean isNothing() {
            if (source.peek() == ';') {
                return true;
            }
            int from = source.at;
            source.skipBlanks();
            boolean nothing = source.peek() == Source.LINE_END;
            source.at = from;
            return nothing;
        }

        private void readLabel() {
            if (source.peek() == ' ') {
                return;
            }
            source.readToken();
            if (source.kind != Source.NAME || source.peek() != ' ') {
                fail(BAD_TEXT);
                return;
            }
            label = source.name;
            if (Names.localDigit(label, Names.B) >= 0 || Names.localDigit(label, Names.F) >= 0) {
                fail(BAD_NAME);
            }
        }

        private void readOp() {
            int from = source.at;
            source.skipToBlank();
            op = Op.find(source, from, source.at);
            if (op == null) {
                fail(BAD_OP);
            } else {
                code = op.codeIn(source, from);
            }
        }

        /** A LOCAL label is told here only to the lines before: see leaveLine(). */
        private void tellLabel(int value) {
            labelValue = value;
            int digit = Names.localDigit(label, Names.H);
            if (digit >= 0) {
                output.closeLocal(digit, value);
            } else if (label != 0) {
                tellSymbol(value);
            }
        }

        private void tellSymbol(int value) {
            int i = names.find(label);
            if (names.isTold(i)) {
                fail(BAD_NAME);
                return;
            }
            if (i < 0) {
                i = names.addSymbol(label);
            }
            if (i < 0) {
                fail(TOO_MANY);
                return;
            }
            names.tell(i, value);
        }

        private void takePlace(int number) {
            if (!Machine.isAddress(number)) {
                fail(BAD_NUMBER);
                return;
            }
            if (op == Op.ORIG) {
                place = number;
                return;
            }
            start = number;
            ended = true;
            firstFree = place;
            putPending();
        }

        /** LITERALS, and SYMBOLS never told. */
        private void putPending() {
            for (int i = 0; i < names.count && fault == 0; i++) {
                if (!names.isTold(i)) {
                    int word = names.valueOf(i);
                    names.tell(i, place);
                    putWord(word);
                }
            }
        }

        private void takeCharacters() {
            source.takes(' ');
            int word = 0;
            for (int i = 0; i < Word.BYTES; i++) {
                int code = source.peek() == Source.LINE_END ? 0 : CODES.indexOf((char) source.peek());
                if (code < 0) {
                    fail(BAD_TEXT);
                    return;
                }
                word = word << Word.BYTE_BITS | code;
                source.skip();
            }
            putWord(word);
        }

        private void takeOperation(int usualField) {
            int address = readAddress();
            int index = 0;
            int field = usualField;
            if (fault == 0 && source.takes(',')) {
                index = readExp();
            }
            if (fault == 0 && source.takes('(')) {
                field = readExp();
                expectBracket();
            }
            expectEnd();
            if (Math.abs(address) > MOST_ADDRESS || index < 0 || index > MOST_INDEX || field < 0 || field > MOST_FIELD) {
                fail(BAD_NUMBER);
            }
            if (fault == 0) {
                putInstruction(addressPart(address) | index << 12 | field << 6 | code);
            }
        }

        private void putWord(int word) {
            kind = Output.CLOSED;
            putInstruction(word);
        }

        private void putInstruction(int word) {
            if (!Machine.isAddress(place)) {
                fail(BAD_NUMBER);
                return;
            }
            output.add(place, word, source.line, kind, goal);
            place++;
        }

        /** An address, or 0 if there is none or it is open. */
        private int readAddress() {
            kind = Output.CLOSED;
            int c = source.peek();
            if (c == Source.LINE_END || c == ',' || c == '(') {
                return 0;
            }
            if (source.takes('=')) {
                takeLiteral(readW());
                return 0;
            }
            return readLaterName() ? 0 : readExp();
        }

        private void takeLiteral(int word) {
            if (!source.takes('=')) {
                fail(BAD_TEXT);
            }
            if (fault != 0) {
                return;
            }
            kind = Output.BY_NAME;
            goal = names.addLiteral(word);
            if (goal < 0) {
                fail(TOO_MANY);
            }
        }

        /** A name that is not told so far and stands alone; anything else is read again, as EXP. */
        private boolean readLaterName() {
            int from = source.at;
            source.readToken();
            if (source.kind == Source.NAME && !isOperator(source.peek())) {
                int digit = Names.localDigit(source.name, Names.F);
                if (digit >= 0) {
                    kind = Output.BY_LOCAL;
                    goal = digit;
                    return true;
                }
                if (isLaterSymbol(source.name)) {
                    kind = Output.BY_NAME;
                    return true;
                }
            }
            source.at = from;
            return false;
        }

        /** Whether it is one; its place among the names is the goal then. */
        private boolean isLaterSymbol(long name) {
            if (Names.localDigit(name, Names.B) >= 0 || Names.localDigit(name, Names.H) >= 0) {
                return false;
            }
            goal = names.find(name);
            if (names.isTold(goal)) {
                return false;
            }
            if (goal < 0) {
                goal = names.addSymbol(name);
            }
            if (goal < 0) {
                fail(TOO_MANY);
            }
            return true;
        }

        private void expectEnd() {
            int c = source.peek();
            if (c != Source.LINE_END && c != ' ') {
                fail(BAD_TEXT);
            }
        }

        private void expectBracket() {
            if (!source.takes(')')) {
                fail(BAD_TEXT);
            }
        }

        private int readW() {
            int word = 0;
            for (int i = 0; i < Source.MOST; i++) {
                int value = readExp();
                int field = Word.WHOLE;
                if (fault == 0 && source.takes('(')) {
                    field = readExp();
                    expectBracket();
                }
                if (!Word.isField(field)) {
                    fail(BAD_NUMBER);
                }
                if (fault != 0) {
                    return 0;
                }
                word = Word.store(word, Word.of(value, 0), field);
                if (!source.takes(',')) {
                    return word;
                }
            }
            return word;
        }

        /** A sign in front is an operator behind 0. */
        private int readExp() {
            long value = 0;
            int operator = '+';
            if (source.peek() == '+' || source.peek() == '-') {
                operator = source.peek();
                source.skip();
            }
            for (int i = 0; i < Source.MOST; i++) {
                source.readToken();
                long atom = atomValue();
                if (fault == 0) {
                    value = reckon(value, operator, atom);
                }
                operator = source.peek();
                if (fault != 0 || !isOperator(operator)) {
                    return (int) value;
                }
                source.skip();
            }
            return (int) value;
        }

        private static boolean isOperator(int c) {
            return c == '+' || c == '-' || c == '*' || c == '/' || c == ':';
        }

        /** Both numbers are below 64 to the 5th in size: a long holds all results. */
        private long reckon(long a, int operator, long b) {
            long result;
            switch (operator) {
                case '+': result = a + b; break;
                case '-': result = a - b; break;
                case '*': result = a * b; break;
                case ':': result = 8 * a + b; break;
                default:
                    if (b == 0) {
                        return fail(BAD_NUMBER);
                    }
                    result = a / b;
                    break;
            }
            return Math.abs(result) > Word.GREATEST ? fail(BAD_NUMBER) : result;
        }

        private int atomValue() {
            switch (source.kind) {
                case Source.NUMBER: return source.number;
                case Source.STAR: return place;
                case Source.NAME: break;
                default: return fail(BAD_TEXT);
            }
            int digit = Names.localDigit(source.name, Names.B);
            if (digit >= 0) {
                return names.isLocalTold(digit) ? names.localValue(digit) : fail(BAD_NAME);
            }
            int i = names.find(source.name);
            return names.isTold(i) ? names.valueOf(i) : fail(BAD_NAME);
        }
    }
}
