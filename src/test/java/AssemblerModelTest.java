import java.util.ArrayList;
import java.util.List;
import java.util.Map;
import java.util.Random;

/** Promises 13 to 16: pseudo-random texts, good ones and spoilt ones, each read by the class and by a slow model. */
public final class AssemblerModelTest {
    private static final int RUNS = 40000;
    private static final String[] OPERATIONS = {"NOP", "ADD", "SUB", "MUL", "DIV", "NUM", "CHAR", "HLT", "SLA", "SRA", "SLAX", "SRAX",
        "SLC", "SRC", "MOVE", "LDA", "LD1", "LD6", "LDX", "LDAN", "LD3N", "LDXN", "STA", "ST2", "STX", "STJ", "STZ", "JBUS", "IOC", "IN",
        "OUT", "JRED", "JMP", "JSJ", "JOV", "JNOV", "JL", "JE", "JG", "JGE", "JNE", "JLE", "JAN", "J1Z", "J6P", "JXNN", "JANZ", "J2NP",
        "INCA", "DEC1", "ENTX", "ENN5", "CMPA", "CMP4", "CMPX"};
    private static final String[] NOT_OPS = {"LDJ", "LD7", "LD0", "STY", "JJN", "JA", "nop", "NOPE", "END1", "LDA,", "ENT", "J1", "CMPJ", "?", "LD?", "J?NN"};
    private static final String[] NAMES = {"A", "B1", "XY", "Z9Z9Z9Z9", "1A", "12B", "H", "END", "NOP", "F1"};
    private static final String BYTES = " ABFH0129+-*/:,()=.;a$\n\t\u00e9'";

    private final Random random;
    private final String title;
    private int told;

    private AssemblerModelTest(int seed) {
        random = new Random(seed);
        title = "seed " + seed;
    }

    public static void main(String[] args) {
        int[] faults = new int[7];
        for (int seed = 0; seed < RUNS; seed++) {
            faults[new AssemblerModelTest(seed).test()]++;
        }
        for (int i = 0; i <= 6; i++) {
            if (faults[i] < RUNS / 1000) {
                Check.fail("only " + faults[i] + " texts with fault " + i);
            }
        }
        Check.end();
    }

    private <T> T pick(T[] of) {
        return of[random.nextInt(of.length)];
    }

    private boolean chance(int one) {
        return random.nextInt(one) == 0;
    }

    private String number() {
        switch (random.nextInt(12)) {
            case 0: return "" + random.nextInt(5000);
            case 1: return "" + random.nextInt(1 << 30);
            case 2: return "0";
            case 3: return "3999";
            case 4: return chance(4) ? "9999999999" : "1073741823";
            case 5: return "00" + random.nextInt(10);
            default: return "" + random.nextInt(8);
        }
    }

    private String atom() {
        switch (random.nextInt(8)) {
            case 0: return chance(2) ? pick(NAMES) : "*";
            case 1: return chance(3) ? random.nextInt(3) + "B" : "*";
            case 2: return chance(12) ? random.nextInt(3) + (chance(2) ? "F" : "H") : "1";
            default: return number();
        }
    }

    private String exp() {
        StringBuilder s = new StringBuilder(chance(4) ? (chance(2) ? "-" : "+") : "");
        s.append(atom());
        for (int i = 0; chance(3) && i < 4; i++) {
            s.append("+-*/:".charAt(random.nextInt(5))).append(atom());
        }
        return s.toString();
    }

    private String field() {
        if (chance(12)) {
            return "(" + exp() + ")";
        }
        int l = random.nextInt(6);
        return "(" + l + ":" + (chance(12) ? random.nextInt(8) : l + random.nextInt(6 - l)) + ")";
    }

    private String w() {
        StringBuilder s = new StringBuilder(exp());
        if (chance(3)) {
            s.append(field());
        }
        for (int i = 0; chance(4) && i < 3; i++) {
            s.append(",").append(exp()).append(chance(2) ? field() : "");
        }
        return s.toString();
    }

    private String address() {
        switch (random.nextInt(9)) {
            case 0: return "";
            case 1: return "=" + w() + "=";
            case 2: case 3: return pick(NAMES);
            case 4: return random.nextInt(3) + (chance(3) ? "B" : "F");
            default: return chance(2) ? "" + random.nextInt(4000) : exp();
        }
    }

    private String label() {
        if (chance(3)) {
            return random.nextInt(3) + "H";
        }
        if (chance(25)) {
            return pick(new String[] {"1B", "2F", "12", "ABCDEFGHI", "a", "A.B", "1H1", "99H"});
        }
        return chance(3) && told < NAMES.length ? NAMES[told++] : "";
    }

    private String line() {
        String label = label();
        if (chance(15)) {
            return pick(new String[] {"", "   ", "; anything", ";"});
        }
        String blanks = " ".repeat(1 + random.nextInt(2));
        switch (random.nextInt(12)) {
            case 0: return label + blanks + "EQU" + blanks + (chance(2) ? "" + random.nextInt(4500) : w());
            case 1: return label + blanks + "ORIG" + blanks + (chance(3) ? w() : chance(4) ? "3998" : "*+" + random.nextInt(5));
            case 2: return label + blanks + "CON" + blanks + w() + (chance(4) ? " said" : "");
            case 3: return label + blanks + "ALF" + (chance(9) ? "" : " " + pick(new String[] {"ABCDE", "~[#", "A Z", "'=$<>", "12,()more", "ab", "", "  :;@"}));
            case 4: return chance(6) ? label + blanks + pick(NOT_OPS) + blanks + "1" : "";
            default: break;
        }
        String argument = address() + (chance(5) ? "," + (chance(4) ? exp() : random.nextInt(7) + "") : "") + (chance(5) ? field() : "");
        return label + blanks + pick(OPERATIONS) + (argument.isEmpty() ? "" : blanks + argument) + (chance(5) ? "  (and more" : "");
    }

    private String text() {
        StringBuilder s = new StringBuilder();
        int lines = random.nextInt(14);
        for (int i = 0; i < lines; i++) {
            s.append(line()).append("\n");
        }
        if (chance(20)) {
            return s.toString();
        }
        s.append(label()).append(" END ").append(chance(4) ? w() : chance(3) ? "*" : "" + random.nextInt(4000));
        return s.append(chance(2) ? "" : chance(3) ? "\nbehind it anything" : "\n").toString();
    }

    /** Many names and many literals, near the limits of both. */
    private String longText() {
        List<String> lines = new ArrayList<>();
        int names = 55 + random.nextInt(8), literals = 36 + random.nextInt(7);
        for (int i = 0; i < names; i++) {
            lines.add(chance(3) ? " JMP N" + i : chance(3) ? "N" + i + " EQU " + i : "N" + i + " NOP");
        }
        for (int i = 0; i < literals; i++) {
            lines.add(random.nextInt(lines.size() + 1), " LDA =" + random.nextInt(9) + "=");
        }
        lines.add(" END 0");
        return String.join("\n", lines);
    }

    private String spoil(String text) {
        StringBuilder s = new StringBuilder(text);
        int where = random.nextInt(s.length() + 1);
        char c = BYTES.charAt(random.nextInt(BYTES.length()));
        if (chance(3) || where == s.length()) {
            s.insert(where, c);
        } else if (chance(2)) {
            s.setCharAt(where, c);
        } else {
            s.deleteCharAt(where);
        }
        return s.toString();
    }

    private int test() {
        String text = chance(40) ? longText() : text();
        for (int i = 0; i < 30 && chance(i == 0 ? 4 : 2); i++) {
            text = spoil(text);
        }
        AssemblerModel model = new AssemblerModel(text);
        SignMachine x = new SignMachine();
        Check.due(title + " poke", x.poke(7, 1, 77), true);
        Check.due(title + " go", x.go(5), true);
        Rig.feed(x, text);
        String where = title + " text <" + text + ">";
        Check.due(where + " bytes", x.about(2), text.length());
        Check.due(where + " assemble()", x.assemble(), model.fault);
        Check.due(where + " about(0)", x.about(0), model.faultLine);
        Check.due(where + " about(1)", x.about(1), model.firstFree);
        Check.due(where + " about(2)", x.about(2), 0);
        Check.due(where + " state(0)", x.state(0), model.fault == 0 ? model.start : 5);
        int calls = 0;
        for (Map.Entry<Integer, Long> word : model.words.entrySet()) {
            if (calls++ < 150) {
                Rig.dueMem(where, x, word.getKey(), (int) (word.getValue() >> 30), (int) (word.getValue() & Rig.MAX));
            }
        }
        if (!model.words.containsKey(7)) {
            Rig.dueMem(where, x, 7, 1, 77);
        }
        for (int i = 0; i < 4; i++) {
            int place = random.nextInt(30);
            if (place != 7 && !model.words.containsKey(place)) {
                Rig.dueMem(where, x, place, 0, 0);
            }
        }
        return model.fault;
    }
}
