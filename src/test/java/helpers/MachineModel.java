import java.math.BigInteger;

/**
 * The machine once more, slow and plain: words are rows of bytes (number 0 is the sign, 1 for -),
 * numbers are BigIntegers, an instruction works on a copy that is kept only if it can be.
 */
final class MachineModel {
    private static final BigInteger B64 = BigInteger.valueOf(64);
    private static final BigInteger FULL = B64.pow(5);

    /** Why an instruction can't be. */
    private static final class CantBe extends RuntimeException {
        final int why;

        CantBe(int why) {
            super(null, null, false, false);
            this.why = why;
        }
    }

    int[][] memory = new int[4000][6];
    int[][] registers = new int[9][6];
    int[][][] tapes = new int[2][4000][6];
    int[] stands = new int[2];
    int next, toggle, indicator, ending;
    long time;

    static int[] word(int sign, int size) {
        int[] w = new int[6];
        w[0] = sign;
        for (int i = 5; i >= 1; i--) {
            w[i] = size % 64;
            size /= 64;
        }
        return w;
    }

    static int size(int[] w) {
        int s = 0;
        for (int i = 1; i <= 5; i++) {
            s = s * 64 + w[i];
        }
        return s;
    }

    private static BigInteger number(int[] w) {
        BigInteger n = BigInteger.valueOf(size(w));
        return w[0] == 1 ? n.negate() : n;
    }

    private static int[] fieldOf(int[] w, int f) {
        int l = f / 8, r = f % 8;
        int[] v = new int[6];
        if (l == 0) {
            v[0] = w[0];
            l = 1;
        }
        int to = 5;
        for (int i = r; i >= l; i--) {
            v[to--] = w[i];
        }
        return v;
    }

    int step() {
        ending = one();
        return ending;
    }

    int run(int n) {
        int done = 0;
        ending = 0;
        while (done < n && ending == 0) {
            ending = one();
            if (ending >= 2) {
                return done;
            }
            done++;
        }
        return done;
    }

    private int one() {
        try {
            if (next == 4000) {
                throw new CantBe(3);
            }
            int[] w = memory[next];
            int c = w[5], f = w[4], index = w[3];
            checkShape(c, f, index);
            int address = (w[1] * 64 + w[2]) * (w[0] == 1 ? -1 : 1);
            int m = address + (index == 0 ? 0 : number(registers[index]).intValue());
            int mSign = m == 0 ? w[0] : m < 0 ? 1 : 0;
            act(c, f, m, mSign);
            return c == 5 && f == 2 ? 1 : 0;
        } catch (CantBe e) {
            return e.why;
        }
    }

    private static boolean in(int v, int from, int to) {
        return from <= v && v <= to;
    }

    private void checkShape(int c, int f, int index) {
        boolean good = index <= 6;
        if (in(c, 1, 4) || in(c, 8, 33) || in(c, 56, 63)) {
            good &= f % 8 <= 5 && f / 8 <= f % 8;
        } else if (c == 5) {
            good &= f < 3;
        } else if (c == 6 || in(c, 40, 47)) {
            good &= f < 6;
        } else if (in(c, 34, 38)) {
            good &= f < 2;
        } else if (c == 39) {
            good &= f < 10;
        } else if (in(c, 48, 55)) {
            good &= f < 4;
        }
        if (!good) {
            throw new CantBe(2);
        }
    }

    private int[] at(int m) {
        if (m < 0 || m > 3999) {
            throw new CantBe(3);
        }
        return memory[m];
    }

    private void done(int units) {
        time += units;
        next++;
    }

    private void act(int c, int f, int m, int mSign) {
        if (c == 0) {
            done(1);
        } else if (c <= 2) {
            int[] v = fieldOf(at(m), f);
            done(2);
            add(0, c == 1 ? number(v) : number(v).negate());
        } else if (c == 3) {
            int[] v = fieldOf(at(m), f);
            done(10);
            int sign = v[0] == registers[0][0] ? 0 : 1;
            BigInteger p = number(registers[0]).multiply(number(v)).abs();
            registers[0] = word(sign, p.divide(FULL).intValue());
            registers[7] = word(sign, p.mod(FULL).intValue());
        } else if (c == 4) {
            int[] v = fieldOf(at(m), f);
            done(12);
            divide(v);
        } else if (c == 5) {
            done(10);
            convert(f);
        } else if (c == 6) {
            if (m < 0) {
                throw new CantBe(3);
            }
            done(2);
            for (int i = 0; i < m; i++) {
                shiftOnce(f);
            }
        } else if (c == 7) {
            move(f, m);
        } else if (c <= 23) {
            int[] v = fieldOf(at(m), f).clone();
            int r = (c - 8) % 8;
            if (c >= 16) {
                v[0] = 1 - v[0];
            }
            put(r, v);
            done(2);
        } else if (c <= 33) {
            int[] from = c == 33 ? new int[6] : registers[c == 32 ? 8 : c - 24];
            store(at(m), from, f);
            done(2);
        } else if (in(c, 35, 37)) {
            tapeAct(c, f, m);
        } else if (c <= 47) {
            at(m);
            done(1);
            goAct(c, f, m);
        } else if (c <= 55) {
            change(c - 48, f, m, mSign);
            done(1);
        } else {
            BigInteger a = number(fieldOf(registers[c - 56], f)), b = number(fieldOf(at(m), f));
            indicator = a.compareTo(b);
            done(2);
        }
    }

    private void put(int r, int[] w) {
        if (in(r, 1, 6) && size(w) > 4095) {
            throw new CantBe(4);
        }
        registers[r] = w;
    }

    private void add(int r, BigInteger n) {
        BigInteger sum = number(registers[r]).add(n);
        int sign = sum.signum() == 0 ? registers[r][0] : sum.signum() < 0 ? 1 : 0;
        sum = sum.abs();
        boolean over = sum.compareTo(FULL) >= 0;
        if (in(r, 1, 6) && sum.intValue() > 4095) {
            throw new CantBe(4);
        }
        if (over) {
            toggle = 1;
            sum = sum.subtract(FULL);
        }
        put(r, word(sign, sum.intValue()));
    }

    private void divide(int[] v) {
        int[] a = registers[0];
        if (size(a) >= size(v)) {
            toggle = 1;
            return;
        }
        BigInteger ax = BigInteger.valueOf(size(a)).multiply(FULL).add(BigInteger.valueOf(size(registers[7])));
        BigInteger[] qr = ax.divideAndRemainder(BigInteger.valueOf(size(v)));
        registers[0] = word(a[0] == v[0] ? 0 : 1, qr[0].intValue());
        registers[7] = word(a[0], qr[1].intValue());
    }

    private void convert(int f) {
        int[] a = registers[0].clone(), x = registers[7].clone();
        if (f == 0) {
            StringBuilder digits = new StringBuilder();
            for (int i = 1; i <= 10; i++) {
                digits.append((i <= 5 ? a[i] : x[i - 5]) % 10);
            }
            BigInteger n = new BigInteger(digits.toString());
            if (n.compareTo(FULL) >= 0) {
                toggle = 1;
            }
            registers[0] = word(a[0], n.mod(FULL).intValue());
        } else if (f == 1) {
            String digits = String.format("%010d", size(a));
            for (int i = 1; i <= 10; i++) {
                int b = 30 + digits.charAt(i - 1) - '0';
                if (i <= 5) {
                    a[i] = b;
                } else {
                    x[i - 5] = b;
                }
            }
            registers[0] = a;
            registers[7] = x;
        }
    }

    private void shiftOnce(int f) {
        int many = f <= 1 ? 5 : 10;
        int[] row = new int[many];
        for (int i = 0; i < many; i++) {
            row[i] = i < 5 ? registers[0][i + 1] : registers[7][i - 4];
        }
        int[] moved = new int[many];
        for (int i = 0; i < many; i++) {
            int from = f % 2 == 0 ? i + 1 : i - 1;
            if (f >= 4) {
                from = (from + many) % many;
            }
            moved[i] = from >= 0 && from < many ? row[from] : 0;
        }
        registers[0] = registers[0].clone();
        registers[7] = registers[7].clone();
        for (int i = 0; i < many; i++) {
            (i < 5 ? registers[0] : registers[7])[i < 5 ? i + 1 : i - 4] = moved[i];
        }
    }

    private void move(int f, int m) {
        int to = number(registers[1]).intValue();
        for (int i = 0; i < f; i++) {
            at(m + i);
            at(to + i);
        }
        for (int i = 0; i < f; i++) {
            memory[to + i] = memory[m + i].clone();
        }
        add(1, BigInteger.valueOf(f));
        done(1 + 2 * f);
    }

    private static void store(int[] w, int[] from, int f) {
        int l = f / 8, r = f % 8;
        int take = 5;
        for (int i = r; i >= Math.max(l, 1); i--) {
            w[i] = from[take--];
        }
        if (l == 0) {
            w[0] = from[0];
        }
    }

    private void tapeAct(int c, int f, int m) {
        if (c == 35) {
            int to = m == 0 ? 0 : stands[f] + m;
            if (to < 0 || to > 40) {
                throw new CantBe(5);
            }
            stands[f] = to;
            done(1);
            return;
        }
        at(m);
        at(m + 99);
        if (stands[f] == 40) {
            throw new CantBe(5);
        }
        for (int i = 0; i < 100; i++) {
            if (c == 36) {
                memory[m + i] = tapes[f][stands[f] * 100 + i].clone();
            } else {
                tapes[f][stands[f] * 100 + i] = memory[m + i].clone();
            }
        }
        stands[f]++;
        done(1);
    }

    private void goAct(int c, int f, int m) {
        boolean goes;
        if (c == 34 || c == 38) {
            goes = c == 38;
        } else if (c == 39) {
            boolean[] when = {true, true, toggle == 1, toggle == 0, indicator == -1, indicator == 0, indicator == 1,
                indicator != -1, indicator != 0, indicator != 1};
            goes = when[f];
            if (f == 2 || f == 3) {
                toggle = 0;
            }
        } else {
            int s = number(registers[c - 40]).signum();
            boolean[] when = {s == -1, s == 0, s == 1, s != -1, s != 0, s != 1};
            goes = when[f];
        }
        if (goes) {
            if (c != 39 || f != 1) {
                registers[8] = word(0, next);
            }
            next = m;
        }
    }

    private void change(int r, int f, int m, int mSign) {
        if (f <= 1) {
            add(r, BigInteger.valueOf(f == 0 ? m : -m));
        } else {
            put(r, word(f == 2 ? mSign : 1 - mSign, Math.abs(m)));
        }
    }
}
