import java.util.Random;

/** Promises 2 to 12: pseudo-random instructions, each done by the machine and by a slow model of it. */
public final class MachineModelTest {
    private static final int RUNS = 6000;
    private static final int[] FIELDS = {0, 1, 2, 3, 4, 5, 9, 10, 11, 12, 13, 18, 19, 20, 21, 27, 28, 29, 36, 37, 45};

    private final Random random;
    private final SignMachine x = new SignMachine();
    private final MachineModel model = new MachineModel();
    private final String title;
    private int calls;

    private MachineModelTest(int seed) {
        random = new Random(seed);
        title = "seed " + seed;
    }

    public static void main(String[] args) {
        for (int seed = 0; seed < RUNS; seed++) {
            new MachineModelTest(seed).test();
        }
        Check.end();
    }

    private int pick(int... of) {
        return of[random.nextInt(of.length)];
    }

    private int someSize(int most) {
        switch (random.nextInt(8)) {
            case 0: return 0;
            case 1: return most;
            case 2: return random.nextInt(3);
            case 3: return most - random.nextInt(3);
            case 4: return random.nextInt(Math.min(most, 4200));
            case 5: return 1 << random.nextInt(31 - Integer.numberOfLeadingZeros(most));
            default: return random.nextInt(most) + 1;
        }
    }

    private int someAddress() {
        switch (random.nextInt(10)) {
            case 0: return pick(0, 1, 3999, 4000, 4095, 3998, 3900, 3901, 3937);
            case 1: return random.nextInt(4096);
            case 2: return random.nextInt(12);
            default: return 2000 + random.nextInt(8);
        }
    }

    private void poke(int address, int sign, int size) {
        calls++;
        Check.due(title + " poke", x.poke(address, sign, size), true);
        model.memory[address] = MachineModel.word(sign, size);
    }

    private void set(int r, int sign, int size) {
        calls++;
        Check.due(title + " set", x.set(r, sign, size), true);
        model.registers[r] = MachineModel.word(sign, size);
    }

    private void prepare() {
        for (int r = 0; r <= 8; r++) {
            if (random.nextInt(4) != 0) {
                boolean big = r == 0 || r == 7;
                int size = someSize(big ? Rig.MAX : 4095);
                if (!big && random.nextInt(3) != 0) {
                    size = random.nextInt(5);
                }
                set(r, r == 8 ? 0 : random.nextInt(2), size);
            }
        }
        if (random.nextInt(3) == 0) {
            set(1, random.nextInt(8) == 0 ? 1 : 0, pick(0, 1, 1999, 2001, 2003, 3936, 3937, 3990, 3999, 4000, 4095));
        }
        for (int i = 0; i < 8; i++) {
            poke(2000 + i, random.nextInt(2), someSize(random.nextInt(3) == 0 ? 4095 : Rig.MAX));
        }
        poke(random.nextInt(4000), random.nextInt(2), someSize(Rig.MAX));
    }

    private int someField(int c) {
        if (random.nextInt(12) == 0) {
            return random.nextInt(64);
        }
        if (c >= 1 && c <= 4 || c >= 8 && c <= 33 || c >= 56) {
            return random.nextInt(3) == 0 ? 5 : FIELDS[random.nextInt(FIELDS.length)];
        }
        if (c == 7) {
            return random.nextInt(6);
        }
        return random.nextInt(c == 5 ? 3 : c == 6 ? 7 : c >= 34 && c <= 38 ? 2 : c == 39 ? 11 : c >= 48 ? 5 : 7);
    }

    private void instruction(int place) {
        int c = random.nextInt(3) == 0 ? pick(1, 2, 3, 4, 5, 6, 7, 35, 36, 37, 39) : random.nextInt(64);
        int f = someField(c);
        int index = random.nextInt(3) == 0 ? random.nextInt(8) : 0;
        int address = someAddress();
        int sign = random.nextInt(8) == 0 ? 1 : 0;
        if (c == 6 || c == 35 || c >= 48 && c < 56) {
            address = pick(random.nextInt(13), random.nextInt(13), random.nextInt(50), random.nextInt(4096), 0, 4095);
            sign = random.nextInt(c == 6 ? 8 : 2) == 0 ? 1 : 0;
        }
        poke(place, sign, address << 18 | index << 12 | f << 6 | c);
    }

    private void compare(String where) {
        for (int r = 0; r <= 8; r++) {
            Check.due(where + " registerSign " + r, x.registerSign(r), model.registers[r][0]);
            Check.due(where + " registerSize " + r, x.registerSize(r), MachineModel.size(model.registers[r]));
        }
        int[] state = {model.next, model.toggle, model.indicator, (int) (model.time & (1 << 30) - 1),
            model.stands[0], model.stands[1], model.ending};
        for (int i = 0; i < state.length; i++) {
            Check.due(where + " state " + i, x.state(i), state[i]);
        }
        calls += 25;
    }

    private void compareWord(String where, int address) {
        if (address >= 0 && address < 4000) {
            calls += 2;
            Check.due(where + " peekSign " + address, x.peekSign(address), model.memory[address][0]);
            Check.due(where + " peekSize " + address, x.peekSize(address), MachineModel.size(model.memory[address]));
        }
    }

    private void compareTape(String where, int unit, int block, int k) {
        calls++;
        int[] w = model.tapes[unit][block * 100 + k];
        int size = MachineModel.size(w);
        int want = w[0] == 0 ? size : size == 0 ? -1073741824 : -size;
        Check.due(where + " tape " + unit + " " + block + " " + k, x.tape(unit, block, k), want);
    }

    private void oneStep(int turn) {
        int place = model.next;
        if (place == 4000 || random.nextInt(10) == 0) {
            place = pick(0, 1, 1990, 3000, 3998, 3999);
            calls++;
            Check.due(title + " go", x.go(place), true);
            model.next = place;
        }
        instruction(place);
        String where = title + " turn " + turn + " word " + java.util.Arrays.toString(model.memory[place]);
        calls++;
        Check.due(where, x.step(), model.step());
        compare(where);
        for (int i = 0; i < 3; i++) {
            compareWord(where, 2000 + random.nextInt(8));
        }
        compareWord(where, place);
        compareWord(where, random.nextInt(4000));
        compareTape(where, random.nextInt(2), random.nextInt(3), random.nextInt(100));
    }

    private void test() {
        compare(title + " new");
        prepare();
        for (int turn = 0; calls < 440; turn++) {
            oneStep(turn);
        }
        for (int i = 0; i < 8; i++) {
            compareWord(title + " end", 2000 + i);
        }
        int n = 1 + random.nextInt(40);
        Check.due(title + " run " + n, x.run(n), model.run(n));
        compare(title + " after run");
    }
}
