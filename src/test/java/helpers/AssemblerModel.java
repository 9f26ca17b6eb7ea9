import java.math.BigInteger;
import java.util.ArrayList;
import java.util.HashMap;
import java.util.LinkedHashMap;
import java.util.List;
import java.util.Map;
import java.util.TreeMap;

/** The becoming of words from a text once more, slow and plain, with strings, maps and exceptions. */
final class AssemblerModel {
    private static final BigInteger FULL = BigInteger.valueOf(1L << 30);
    private static final Map<String, int[]> OPS = ops();

    /** The fault that ends all. */
    private static final class Fault extends RuntimeException {
        final int why;

        Fault(int why) {
            super(null, null, false, false);
            this.why = why;
        }
    }

    /** An address that is asked for at the end. */
    private record Open(int line, int place, int index, String name, int labelsBefore, int rest) {
    }

    /** A LABEL that is LOCAL. */
    private record Local(char digit, int line, long value) {
    }

    int fault;
    int faultLine;
    int start;
    int firstFree = -1;
    /** place, and word as size, with 2 to the 30th added if it is below 0. */
    final Map<Integer, Long> words = new TreeMap<>();

    private final Map<String, Long> told = new HashMap<>();
    private final Map<String, Integer> stood = new LinkedHashMap<>();
    private final Map<String, Long> literals = new LinkedHashMap<>();
    private final List<String> order = new ArrayList<>();
    private final List<Local> locals = new ArrayList<>();
    private final List<Open> opens = new ArrayList<>();
    private final List<Object[]> puts = new ArrayList<>();
    private int place;
    private int line;
    private String text;
    private int at;

    AssemblerModel(String whole) {
        List<String> lines = new ArrayList<>(List.of(whole.split("\n", -1)));
        if (lines.get(lines.size() - 1).isEmpty()) {
            lines.remove(lines.size() - 1);
        }
        try {
            boolean ended = false;
            for (int i = 0; i < lines.size() && !ended; i++) {
                line = i + 1;
                ended = read(lines.get(i));
            }
            if (!ended) {
                line = lines.size();
                throw new Fault(6);
            }
            close();
        } catch (Fault e) {
            fault = e.why;
            faultLine = line;
            firstFree = -1;
            words.clear();
        }
    }

    private static Map<String, int[]> ops() {
        Map<String, int[]> m = new HashMap<>();
        String[] fixed = ("NOP 0 0 ADD 1 5 SUB 2 5 MUL 3 5 DIV 4 5 NUM 5 0 CHAR 5 1 HLT 5 2 SLA 6 0 SRA 6 1 SLAX 6 2 SRAX 6 3 "
            + "SLC 6 4 SRC 6 5 MOVE 7 1 STJ 32 2 STZ 33 5 JBUS 34 0 IOC 35 0 IN 36 0 OUT 37 0 JRED 38 0 JMP 39 0 JSJ 39 1 "
            + "JOV 39 2 JNOV 39 3 JL 39 4 JE 39 5 JG 39 6 JGE 39 7 JNE 39 8 JLE 39 9").split(" ");
        for (int i = 0; i < fixed.length; i += 3) {
            m.put(fixed[i], new int[] {Integer.parseInt(fixed[i + 1]), Integer.parseInt(fixed[i + 2])});
        }
        String[] conditions = {"N", "Z", "P", "NN", "NZ", "NP"};
        String[] changes = {"INC", "DEC", "ENT", "ENN"};
        for (int r = 0; r < 8; r++) {
            String n = r == 0 ? "A" : r == 7 ? "X" : "" + r;
            m.put("LD" + n, new int[] {8 + r, 5});
            m.put("LD" + n + "N", new int[] {16 + r, 5});
            m.put("ST" + n, new int[] {24 + r, 5});
            m.put("CMP" + n, new int[] {56 + r, 5});
            for (int i = 0; i < conditions.length; i++) {
                m.put("J" + n + conditions[i], new int[] {40 + r, i});
            }
            for (int i = 0; i < changes.length; i++) {
                m.put(changes[i] + n, new int[] {48 + r, i});
            }
        }
        return m;
    }

    private char now() {
        return at < text.length() ? text.charAt(at) : '\n';
    }

    private boolean read(String whole) {
        text = whole;
        at = 0;
        if (text.isBlank() && text.matches(" *") || text.startsWith(";")) {
            return false;
        }
        String label = readLabel();
        while (now() == ' ') {
            at++;
        }
        if (now() == '\n') {
            throw new Fault(1);
        }
        int from = at;
        while (now() != ' ' && now() != '\n') {
            at++;
        }
        String op = text.substring(from, at);
        boolean own = op.matches("EQU|ORIG|CON|ALF|END");
        if (!own && !OPS.containsKey(op)) {
            throw new Fault(2);
        }
        if (!op.equals("EQU")) {
            tell(label, place);
        }
        int before = place;
        long value = before;
        if (op.equals("ALF")) {
            alf();
        } else {
            while (now() == ' ') {
                at++;
            }
            if (own) {
                value = takeW(op, label);
            } else {
                operation(OPS.get(op));
            }
        }
        if (label.matches("[0-9]H")) {
            locals.add(new Local(label.charAt(0), line, value));
        }
        if (op.equals("END")) {
            rest();
        }
        return op.equals("END");
    }

    private String readLabel() {
        if (now() == ' ') {
            return "";
        }
        int blank = text.indexOf(' ');
        String label = blank < 0 ? text : text.substring(0, blank);
        if (blank < 0 || !label.matches("[A-Z0-9]{1,8}") || label.matches("[0-9]*")) {
            throw new Fault(1);
        }
        at = blank;
        if (label.matches("[0-9][BF]")) {
            throw new Fault(3);
        }
        return label;
    }

    private void stands(String name) {
        if (!stood.containsKey(name)) {
            if (stood.size() == 60) {
                throw new Fault(5);
            }
            stood.put(name, line);
            order.add(name);
        }
    }

    private void tell(String label, long value) {
        if (label.isEmpty() || label.matches("[0-9]H")) {
            return;
        }
        if (told.containsKey(label)) {
            throw new Fault(3);
        }
        stands(label);
        told.put(label, value);
    }

    /** What a LOCAL label of this line is: of EQU its W, else the place before. */
    private long takeW(String op, String label) {
        long w = readW();
        argumentEnds();
        long number = (w & (1L << 30)) != 0 ? -(w & (1L << 30) - 1) : w;
        if (op.equals("EQU")) {
            tell(label, number);
            return number;
        }
        int before = place;
        if (op.equals("CON")) {
            word(w);
            return before;
        }
        if (number < 0 || number > 3999) {
            throw new Fault(4);
        }
        if (op.equals("ORIG")) {
            place = (int) number;
        } else {
            start = (int) number;
        }
        return before;
    }

    private void alf() {
        at++;
        long w = 0;
        String codes = " ABCDEFGHI~JKLMNOPQR[#STUVWXYZ0123456789.,()+-*/=$<>@;:'";
        for (int i = 0; i < 5; i++) {
            int code = at + i < text.length() ? codes.indexOf(text.charAt(at + i)) : 0;
            if (code < 0) {
                throw new Fault(1);
            }
            w = w * 64 + code;
        }
        word(w);
    }

    private void word(long w) {
        if (place > 3999) {
            throw new Fault(4);
        }
        puts.add(new Object[] {place, w});
        place++;
    }

    private void argumentEnds() {
        if (now() != ' ' && now() != '\n') {
            throw new Fault(1);
        }
    }

    private void operation(int[] op) {
        long address = 0;
        String open = null;
        int from = at;
        if (now() == '=') {
            at++;
            long w = readW();
            if (now() != '=') {
                throw new Fault(1);
            }
            at++;
            open = "=" + literals.size();
            if (literals.size() == 40) {
                throw new Fault(5);
            }
            literals.put(open, w);
            order.add(open);
        } else if (now() != ',' && now() != '(' && now() != '\n') {
            String run = text.substring(at).replaceFirst("[^A-Z0-9].*", "");
            char behind = at + run.length() < text.length() ? text.charAt(at + run.length()) : '\n';
            boolean name = run.length() <= 8 && run.matches(".*[A-Z].*") && "+-*/:".indexOf(behind) < 0;
            if (name && !run.matches("[0-9][BH]") && !told.containsKey(run)) {
                if (!run.matches("[0-9]F")) {
                    stands(run);
                }
                at += run.length();
                open = run;
            } else {
                address = readExp();
            }
        }
        long index = 0, f = op[1];
        if (now() == ',') {
            at++;
            index = readExp();
        }
        if (now() == '(') {
            f = bracket();
        }
        argumentEnds();
        if (Math.abs(address) > 4095 || index < 0 || index > 6 || f < 0 || f > 63) {
            throw new Fault(4);
        }
        long low = index * 4096 + f * 64 + op[0];
        if (open != null) {
            opens.add(new Open(line, place, puts.size(), open, locals.size(), (int) low));
        }
        word((address < 0 ? 1L << 30 : 0) + Math.abs(address) * 262144 + low);
    }

    private long bracket() {
        at++;
        long f = readExp();
        if (now() != ')') {
            throw new Fault(1);
        }
        at++;
        return f;
    }

    private long readW() {
        int[] w = new int[6];
        while (true) {
            long v = readExp();
            long f = 5;
            if (now() == '(') {
                f = bracket();
                if (f < 0 || f > 45 || f / 8 > f % 8 || f % 8 > 5) {
                    throw new Fault(4);
                }
            }
            int[] from = MachineModel.word(v < 0 ? 1 : 0, (int) Math.abs(v));
            int take = 5;
            for (int i = (int) f % 8; i >= Math.max(1, f / 8); i--) {
                w[i] = from[take--];
            }
            if (f < 8) {
                w[0] = from[0];
            }
            if (now() != ',') {
                return ((long) w[0] << 30) + MachineModel.size(w);
            }
            at++;
        }
    }

    private long readExp() {
        boolean minus = now() == '-';
        if (minus || now() == '+') {
            at++;
        }
        BigInteger v = readAtom();
        if (minus) {
            v = v.negate();
        }
        while ("+-*/:".indexOf(now()) >= 0) {
            char operator = now();
            at++;
            BigInteger b = readAtom();
            if (operator == '/' && b.signum() == 0) {
                throw new Fault(4);
            }
            v = operator == '+' ? v.add(b) : operator == '-' ? v.subtract(b) : operator == '*' ? v.multiply(b)
                : operator == '/' ? v.divide(b) : v.multiply(BigInteger.valueOf(8)).add(b);
            if (v.abs().compareTo(FULL) >= 0) {
                throw new Fault(4);
            }
        }
        return v.longValue();
    }

    private BigInteger readAtom() {
        if (now() == '*') {
            at++;
            return BigInteger.valueOf(place);
        }
        int from = at;
        while (String.valueOf(now()).matches("[A-Z0-9]")) {
            at++;
        }
        String run = text.substring(from, at);
        if (run.isEmpty()) {
            throw new Fault(1);
        }
        if (run.matches("[0-9]+")) {
            if (run.length() > 10) {
                throw new Fault(1);
            }
            return new BigInteger(run).mod(FULL);
        }
        if (run.length() > 8) {
            throw new Fault(1);
        }
        if (run.matches("[0-9]B")) {
            for (int i = locals.size() - 1; i >= 0; i--) {
                if (locals.get(i).digit() == run.charAt(0)) {
                    return BigInteger.valueOf(locals.get(i).value());
                }
            }
        }
        if (run.matches("[0-9][BFH]") || !told.containsKey(run)) {
            throw new Fault(3);
        }
        return BigInteger.valueOf(told.get(run));
    }

    private void rest() {
        firstFree = place;
        for (String name : order) {
            if (!told.containsKey(name)) {
                told.put(name, (long) place);
                word(literals.getOrDefault(name, 0L));
            }
        }
    }

    private void close() {
        for (Open o : opens) {
            line = o.line();
            Long value = null;
            if (o.name().matches("[0-9]F")) {
                for (int i = locals.size() - 1; i >= o.labelsBefore(); i--) {
                    Local l = locals.get(i);
                    if (l.digit() == o.name().charAt(0) && l.line() > o.line()) {
                        value = l.value();
                    }
                }
            } else {
                value = told.get(o.name());
            }
            if (value == null) {
                throw new Fault(3);
            }
            if (Math.abs(value) > 4095) {
                throw new Fault(4);
            }
            puts.get(o.index())[1] = (value < 0 ? 1L << 30 : 0) + Math.abs(value) * 262144 + o.rest();
        }
        for (Object[] p : puts) {
            words.put((Integer) p[0], (Long) p[1]);
        }
    }
}
