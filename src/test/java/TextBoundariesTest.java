/** The terms of texts: each sentence that names a boundary has a test of its own here. */
public final class TextBoundariesTest {
    private static final int MAX = Rig.MAX;
    private static final String END = "\n END 0";

    public static void main(String[] args) {
        longestText();
        linesThatEnd();
        linesOfNothing();
        partsOfLines();
        characters();
        lengthsOfNames();
        lettersInNames();
        locals();
        namesLikeLocals();
        labelsTold();
        operators();
        digits();
        zeros();
        atoms();
        parts();
        laterNames();
        wordsByFields();
        usualFields();
        equ();
        orig();
        twoAtOnePlace();
        endOfText();
        placesBehindTheEnd();
        codes();
        bytesInLabels();
        bytesInArguments();
        endsTooEarly();
        tooLong();
        opsThatAreNone();
        labelsToldBefore();
        localLabels();
        namesNotTold();
        localsWithNoneBehind();
        addresses();
        addressesToldLater();
        indexes();
        fieldsOfOperations();
        fieldsOfWords();
        divisors();
        numbersOnTheWay();
        places();
        placesOfOrigAndEnd();
        symbolsInAll();
        literalsInAll();
        noEnd();
        firstOnes();
        nextText();
        Check.end();
    }

    private static SignMachine good(String text) {
        SignMachine x = new SignMachine();
        Check.due("<" + text + ">", Rig.assemble(x, text), 0);
        Check.due("<" + text + ">: line", x.about(0), 0);
        return x;
    }

    private static void word(String text, int place, int sign, int size) {
        Rig.dueMem("<" + text + ">", good(text), place, sign, size);
    }

    /** The line becomes the word at 0, or is one of those that become none. */
    private static void line(String line, int number) {
        word(line + END, 0, number < 0 ? 1 : 0, Math.abs(number));
    }

    private static void bad(String text, int fault, int line) {
        SignMachine x = new SignMachine();
        Check.due("<" + text + ">", Rig.assemble(x, text), fault);
        Check.due("<" + text + ">: line", x.about(0), line);
    }

    private static void badLine(String line, int fault) {
        bad(" NOP\n" + line + "\n NOP" + END, fault, 2);
    }

    private static int instruction(int address, int index, int f, int c) {
        return address << 18 | index << 12 | f << 6 | c;
    }

    private static void longestText() {
        Check.sentence("A TEXT of lines, up to 4,000 bytes");
        String last = " CON 9\n END 0";
        SignMachine x = good("\n".repeat(4000 - last.length()) + last);
        Rig.dueMem("4,000 bytes, mostly ends of lines", x, 0, 0, 9);
        x = good(";" + "x".repeat(3998 - last.length()) + "\n" + last);
        Rig.dueMem("4,000 bytes, mostly one line", x, 0, 0, 9);
        x = good(" CON 9" + " ".repeat(3987) + "\n END 0");
        Rig.dueMem("4,000 bytes, mostly blanks", x, 0, 0, 9);
        x = good(" IN\n".repeat(998) + "\n END 0\n");
        Check.due("as many words as can be", x.about(1), 998);
        Rig.dueMem("the last one of them", x, 997, 0, 36);
        Rig.dueMem("behind it", x, 998, 0, 0);
    }

    private static void linesThatEnd() {
        Check.sentence("10 ends a line; the last one may end so or not");
        word(" CON 1\n END 0", 0, 0, 1);
        word(" CON 1\n END 0\n", 0, 0, 1);
        word(" CON 1\n END 0\n\n\n", 0, 0, 1);
        bad(" CON 1\r\n END 0", 1, 1);
        bad(" CON 1\u0000 END 0", 1, 1);
        bad(" CON 1\u000b END 0", 1, 1);
        bad(" NOP\u008a END 0", 2, 1);
    }

    private static void linesOfNothing() {
        Check.sentence("A line that is empty, has blanks (32) alone, or begins with ; is nothing");
        String[] nothing = {"", " ", "      ", ";", ";;", "; LDA $ (", ";END 0"};
        for (String n : nothing) {
            SignMachine x = good(n + "\nA CON 5\n" + n + "\n CON A+1\n" + n + "\n END A\n" + n);
            Rig.dueMem("nothing: <" + n + ">", x, 0, 0, 5);
            Rig.dueMem("nothing: <" + n + ">", x, 1, 0, 1);
            Check.due("nothing: <" + n + ">", x.about(1), 2);
        }
        bad(" ;" + END, 2, 1);
        bad("\t" + END, 1, 1);
        bad(" \t" + END, 2, 1);
    }

    private static void partsOfLines() {
        Check.sentence("LABEL (at its first byte, if that is no blank), blanks, OP, perhaps blanks and ARGUMENT, perhaps blanks and anything");
        line("A CON 5", 5);
        line("A     CON     5     (=$", 5);
        line(" CON 5", 5);
        line("      CON 5 ", 5);
        line(" NOP", 0);
        line("A NOP", 0);
        line(" NOP    ", 0);
        line(" NOP 0 a", 0);
        line(" CON 5 \u0000\u00ff\t", 5);
        line(" LDA 1,2(3) ,4(5)", instruction(1, 2, 3, 8));
    }

    private static void characters() {
        Check.sentence("OP ALF: its ARGUMENT is the five bytes right behind one blank (32 for those that there are not)");
        line(" ALF ABCDE", Rig.bytes(1, 2, 3, 4, 5));
        line(" ALF ABCD", Rig.bytes(1, 2, 3, 4, 0));
        line(" ALF A", Rig.bytes(1, 0, 0, 0, 0));
        line(" ALF ", 0);
        line(" ALF", 0);
        line(" ALF  BCDE", Rig.bytes(0, 2, 3, 4, 5));
        line(" ALF      BCDE", 0);
        line(" ALF     E", Rig.bytes(0, 0, 0, 0, 5));
        line(" ALF ABCDE a$", Rig.bytes(1, 2, 3, 4, 5));
        word(" NOP\n ALF\n ALF ABCDE" + END, 2, 0, Rig.bytes(1, 2, 3, 4, 5));
    }

    private static void lengthsOfNames() {
        Check.sentence("SYMBOLS: up to 8 letters (A .. Z) and digits");
        String[] names = {"A", "Z", "AZ", "ABCDEFGH", "A1234567", "1234567A", "Z9Z9Z9Z9", "0000000A"};
        for (String name : names) {
            word(name + " EQU 77\n CON " + name + "\n LDA " + name + END, 0, 0, 77);
            word(name + " EQU 77\n LDA " + name + END, 0, 0, instruction(77, 0, 5, 8));
            word(" LDA " + name + "\n" + name + " EQU 77" + END, 0, 0, instruction(77, 0, 5, 8));
        }
        String[] pairs = {"ABCDEFGH", "ABCDEFGI", "BBCDEFGH", "ABCDEFG"};
        StringBuilder text = new StringBuilder();
        for (int i = 0; i < pairs.length; i++) {
            text.append(pairs[i]).append(" EQU ").append(10 + i).append("\n");
        }
        for (int i = 0; i < pairs.length; i++) {
            word(text + " CON " + pairs[i] + END, 0, 0, 10 + i);
        }
        badLine("ABCDEFGHI NOP", 1);
        badLine(" LDA ABCDEFGHI", 1);
        badLine(" CON ABCDEFGHI", 1);
    }

    private static void lettersInNames() {
        Check.sentence("a letter among them");
        badLine("1 NOP", 1);
        badLine("12345678 NOP", 1);
        word("1A EQU 5\n CON 1A" + END, 0, 0, 5);
        word("A1 EQU 5\n CON 1+A1" + END, 0, 0, 6);
        word("1A1 EQU 5\n CON 1A1*1" + END, 0, 0, 5);
        badLine("a NOP", 1);
        badLine("@ NOP", 1);
        badLine("[ NOP", 1);
        badLine("/ NOP", 1);
        badLine(": NOP", 1);
    }

    private static void locals() {
        Check.sentence("a digit and H (as LABEL, as often as wanted), B or F (the last such H of a line before this one, the next one of a line behind it) is LOCAL");
        for (int d = 0; d <= 9; d++) {
            String text = "#H JMP #F\n#H JMP #B\n#H JMP #F\n JMP #B\n JMP #F\n#H JMP #B\n#H END #B".replace("#", "" + d);
            SignMachine x = good(text);
            int[] to = {1, 0, 5, 2, 5, 2};
            for (int i = 0; i < to.length; i++) {
                Rig.dueMem("<" + text + ">", x, i, 0, instruction(to[i], 0, 0, 39));
            }
            Check.due("STARTS", x.state(0), 5);
        }
        word("1H EQU 5\n1H EQU 1B+1\n1H EQU 1B*1B\n CON 1B" + END, 0, 0, 36);
        word(" LDA 1F\n1H EQU 5\n1H EQU 6" + END, 0, 0, instruction(5, 0, 5, 8));
        word("2H EQU 5\n1H EQU 6\n CON 2B" + END, 0, 0, 5);
        word("11H EQU 5\nH EQU 6\nB EQU 7\nF EQU 8\n CON 11H*10+H*10+B*10+F" + END, 0, 0, 5678);
        StringBuilder many = new StringBuilder();
        for (int i = 0; i < 100; i++) {
            many.append("9H JMP 9F\n");
        }
        word(many + "9H NOP" + END, 99, 0, instruction(100, 0, 0, 39));
    }

    private static void namesLikeLocals() {
        Check.sentence("SYMBOLS: a digit and H, B or F is LOCAL (with another letter, or behind more than one digit, it is not)");
        for (int d = 0; d <= 9; d++) {
            for (char c = 'A'; c <= 'Z'; c++) {
                String name = "" + d + c;
                if (c == 'B' || c == 'F') {
                    badLine(name + " NOP", 3);
                } else if (c == 'H') {
                    badLine(" LDA " + name, 3);
                    badLine(" CON " + name, 3);
                    good(name + " NOP\n" + name + " NOP" + END);
                } else {
                    word(name + " EQU 9\n CON " + name + END, 0, 0, 9);
                    bad(name + " NOP\n" + name + " NOP" + END, 3, 2);
                }
                word("0" + name + " EQU 9\n CON 0" + name + END, 0, 0, 9);
                word(c + "" + d + " EQU 9\n CON " + c + d + END, 0, 0, 9);
            }
        }
        for (char c = 'A'; c <= 'Z'; c++) {
            for (String letter : new String[] {"B", "F", "H"}) {
                word(c + letter + " EQU 9\n CON " + c + letter + END, 0, 0, 9);
            }
        }
    }

    private static void labelsTold() {
        Check.sentence("A LABEL is told when its line begins, that of EQU when it ends");
        word(" NOP\nA CON A" + END, 1, 0, 1);
        word(" NOP\nA LDA A+A" + END, 1, 0, instruction(2, 0, 5, 8));
        word(" NOP\nA ORIG A+1\n CON A" + END, 2, 0, 1);
        bad("A EQU A" + END, 3, 1);
        bad("A EQU A+1\nA EQU 5" + END, 3, 1);
        Check.due("END", good(" NOP\nA END A").state(0), 1);
    }

    private static void operators() {
        Check.sentence("perhaps + or -, an ATOM, and any number of times + - * / : and an ATOM, reckoned from the left (a : b is 8 a + b; / cuts off)");
        line(" CON +5", 5);
        line(" CON -5", -5);
        line(" CON 1+2*3-4/2", 2);
        line(" CON 7/2", 3);
        line(" CON -7/2", -3);
        line(" CON 6/2", 3);
        line(" CON 1/2", 0);
        line(" CON 0/5", 0);
        line(" CON 1:2", 10);
        line(" CON 0:5", 5);
        line(" CON -1:2", -6);
        line(" CON 1:2:3", 83);
        line(" CON 1" + "+1".repeat(1900), 1901);
        line(" CON 1" + "*1".repeat(1900), 1);
        word("M EQU -7\n CON M/2" + END, 0, 1, 3);
        word("M EQU -7\n CON 14/M" + END, 0, 1, 2);
        word("M EQU -7\n CON -M" + END, 0, 0, 7);
        word("M EQU -7\n CON M/M" + END, 0, 0, 1);
        word("M EQU -7\n CON 1:M" + END, 0, 0, 1);
        badLine(" CON --5", 1);
        badLine(" CON +-5", 1);
        badLine(" CON 5*-5", 1);
    }

    private static void digits() {
        Check.sentence("1 to 10 digits (its rest modulo 64 to the 5th)");
        line(" CON 7", 7);
        line(" CON 0000000007", 7);
        line(" CON 1073741823", MAX);
        line(" CON 1073741824", 0);
        line(" CON 1073741825", 1);
        line(" CON 2147483647", MAX);
        line(" CON 2147483648", 0);
        line(" CON 4294967296", 0);
        line(" CON 4294967297", 1);
        line(" CON 9999999999", 336323583);
        line(" CON -9999999999", -336323583);
        badLine(" CON 00000000007", 1);
        badLine(" CON 10000000000", 1);
    }

    private static void zeros() {
        Check.sentence("A 0 is + 0");
        line(" CON 0", 0);
        line(" CON -0", 0);
        line(" CON 5-5", 0);
        line(" CON -5+5", 0);
        line(" CON -1/2", 0);
        line(" CON -5*0", 0);
        line(" CON -1073741824", 0);
        line(" CON -5,0", 0);
        line(" CON -5,-0(0:0)", 5);
        line(" LDA -0", instruction(0, 0, 5, 8));
        word("M EQU -1\n CON M*0" + END, 0, 0, 0);
        word("M EQU -0\n CON M" + END, 0, 0, 0);
    }

    private static void atoms() {
        Check.sentence("* (the PLACE of this line)");
        word(" ORIG 3999\n CON *" + END, 3999, 0, 3999);
        line(" CON *", 0);
        word(" NOP\n NOP\n CON ***" + END, 2, 0, 4);
        word(" NOP\n NOP\n CON *-*" + END, 2, 0, 0);
        word(" NOP\n NOP\n CON -*" + END, 2, 1, 2);
        word(" ORIG 3999\n NOP\nA EQU *\n ORIG 5\n CON A" + END, 5, 0, 4000);
        word(" NOP\n LDA =*=\n END *", 2, 0, 1);
        Check.due("END *", good(" NOP\n LDA =*=\n END *").state(0), 2);
    }

    private static void parts() {
        Check.sentence("ARGUMENT of an operation: [EXP, or ..] [, EXP (INDEX)] [(EXP) (F)]");
        line(" LDA", instruction(0, 0, 5, 8));
        line(" LDA 7", instruction(7, 0, 5, 8));
        line(" LDA ,3", instruction(0, 3, 5, 8));
        line(" LDA (7)", instruction(0, 0, 7, 8));
        line(" LDA 7,3", instruction(7, 3, 5, 8));
        line(" LDA 7(9)", instruction(7, 0, 9, 8));
        line(" LDA ,3(9)", instruction(0, 3, 9, 8));
        line(" LDA 7,3(9)", instruction(7, 3, 9, 8));
        badLine(" LDA 7(9),3", 1);
        badLine(" LDA 7,3,3", 1);
        badLine(" LDA 7(9)(9)", 1);
    }

    private static void laterNames() {
        Check.sentence("or alone a SYMBOL that was not told so far or a LOCAL with F, or = W = (a LITERAL)");
        String[] alone = {"L", "1F", "=8="};
        int[] told = {77, 1, 2};
        for (int i = 0; i < alone.length; i++) {
            String behind = "\n1H NOP\nL EQU 77" + END;
            int to = told[i];
            word(" LDA " + alone[i] + behind, 0, 0, instruction(to, 0, 5, 8));
            word(" LDA " + alone[i] + ",6" + behind, 0, 0, instruction(to, 6, 5, 8));
            word(" LDA " + alone[i] + "(63)" + behind, 0, 0, instruction(to, 0, 63, 8));
            word(" LDA " + alone[i] + ",6(63) $" + behind, 0, 0, instruction(to, 6, 63, 8));
        }
        badLine(" LDA L+1", 3);
        badLine(" LDA -L", 3);
        badLine(" LDA 1F+1", 3);
        badLine(" LDA -1F", 3);
        badLine(" LDA =8=+1", 1);
        badLine(" LDA -=8=", 1);
    }

    private static void wordsByFields() {
        Check.sentence("W: EXP [(EXP)] any number of times , and such: from + 0 on each EXP's word is stored in F (5 without) as by 24");
        line(" CON 5", 5);
        line(" CON -5(0:5)", -5);
        line(" CON -5(1:5)", 5);
        line(" CON 1073741823(0)", 0);
        line(" CON -1(0),5(1:5)", -5);
        line(" CON 1073741823(1:1)", Rig.bytes(63, 0, 0, 0, 0));
        line(" CON 1073741823(5:5)", 63);
        line(" CON 64(5:5)", 0);
        line(" CON 1(1:1),2(2:2),3(3:3),4(4:4),5(5:5),-1(0:0)", -Rig.bytes(1, 2, 3, 4, 5));
        line(" CON 7(1:1),8", 8);
        line(" CON 0" + ",1".repeat(1900), 1);
        SignMachine x = good(" CON -1(0)" + END);
        Rig.dueMem("- 0", x, 0, 1, 0);
    }

    private static void usualFields() {
        Check.sentence("F is 5 where it is a field (0 for STJ: 2), 0 of NOP, 1 of MOVE, 0 of units, else as the name says");
        String[] names = {"STJ", "STZ", "NOP", "MOVE", "JBUS", "IOC", "IN", "OUT", "JRED", "HLT", "SRC", "JLE", "JXNP", "ENN6", "CMPX", "LDXN", "ADD"};
        int[] cs = {32, 33, 0, 7, 34, 35, 36, 37, 38, 5, 6, 39, 47, 54, 63, 23, 1};
        int[] fs = {2, 5, 0, 1, 0, 0, 0, 0, 0, 2, 5, 9, 5, 3, 5, 5, 5};
        for (int i = 0; i < names.length; i++) {
            line(" " + names[i] + " 9", instruction(9, 0, fs[i], cs[i]));
            line(" " + names[i] + " 9(0)", instruction(9, 0, 0, cs[i]));
            line(" " + names[i] + " 9(63)", instruction(9, 0, 63, cs[i]));
        }
    }

    private static void equ() {
        Check.sentence("EQU W: the LABEL is this");
        word("A EQU 1073741823\n CON A" + END, 0, 0, MAX);
        word("A EQU -1073741823\n CON A" + END, 0, 1, MAX);
        word("A EQU 5(1:1),-1(0:0)\n CON A" + END, 0, 1, Rig.bytes(5, 0, 0, 0, 0));
        word("A EQU 4000\n CON A" + END, 0, 0, 4000);
        word("A EQU -1\n CON A" + END, 0, 1, 1);
        word(" EQU 5000\n CON *" + END, 0, 0, 0);
    }

    private static void orig() {
        Check.sentence("ORIG W: the PLACE becomes it (the LABEL is the PLACE before)");
        word(" ORIG 3999\n CON 4" + END, 3999, 0, 4);
        word(" ORIG 3999\n ORIG 0\n CON 4" + END, 0, 0, 4);
        word(" NOP\nA ORIG 3999\n CON A" + END, 3999, 0, 1);
        word(" ORIG 3999\n NOP\nA ORIG 7\n CON A" + END, 7, 0, 4000);
    }

    private static void twoAtOnePlace() {
        Check.sentence("CON W: a word (of two at one place the later one stays)");
        word(" CON 1\n ORIG 0\n CON 2" + END, 0, 0, 2);
        word(" CON 1\n ORIG 0\n CON -0" + END, 0, 0, 0);
        word(" JMP 1F\n ORIG 0\n CON 2\n1H NOP" + END, 0, 0, 2);
        word(" NOP\n CON 1\n ORIG 0\n LDA =9=\n END 0", 1, 0, 9);
        word(" NOP\n CON 1\n ORIG 0\n LDA L\n END 0", 1, 0, 0);
    }

    private static void endOfText() {
        Check.sentence("END W: the text ends; W is where it STARTS");
        for (String behind : new String[] {"", "\n", "\n FOO", "\n CON 7", "\n\n$", "\n END 9"}) {
            SignMachine x = good(" CON 1\n END 3999" + behind);
            Check.due("STARTS", x.state(0), 3999);
            Rig.dueMem("nothing behind it", x, 1, 0, 0);
        }
        Check.due("STARTS", good(" END -0").state(0), 0);
        Check.due("STARTS", good(" END 1(4:4)").state(0), 64);
    }

    private static void placesBehindTheEnd() {
        Check.sentence("LITERALS and SYMBOLS never told follow from the PLACE on, by where each first stood (a LITERAL its word; a SYMBOL + 0, its PLACE being that)");
        SignMachine x = new SignMachine();
        for (int i = 0; i < 20; i++) {
            x.poke(i, 1, 99);
        }
        Check.due("assemble()", Rig.assemble(x, " LDA P\n LDA =-7=\n LDA Q\n LDA P\n LDA R\n LDA =8=\nQ LDA R\n END 0"), 0);
        int[] to = {7, 8, 6, 7, 9, 10, 9};
        for (int i = 0; i < to.length; i++) {
            Rig.dueMem("an address", x, i, 0, instruction(to[i], 0, 5, 8));
        }
        Check.due("about(1)", x.about(1), 7);
        int[] words = {0, -7, 0, 8};
        for (int i = 0; i < words.length; i++) {
            Rig.dueMem("behind the PLACE", x, 7 + i, words[i] < 0 ? 1 : 0, Math.abs(words[i]));
        }
        Rig.dueMem("nothing more", x, 11, 1, 99);
        x = good(" ORIG 3998\n LDA P\n END 0");
        Rig.dueMem("up to 3999", x, 3998, 0, instruction(3999, 0, 5, 8));
        for (char c = 'A'; c <= 'Z'; c++) {
            x = good(" LDA =5=\n LDA " + c + "\n LDA =6=" + END);
            Rig.dueMem("a LITERAL before " + c, x, 0, 0, instruction(3, 0, 5, 8));
            Rig.dueMem("the name " + c, x, 1, 0, instruction(4, 0, 5, 8));
            Rig.dueMem("a LITERAL behind " + c, x, 2, 0, instruction(5, 0, 5, 8));
            bad(" LDA =5=\n CON " + c + END, 3, 2);
        }
    }

    private static void codes() {
        Check.sentence("CODES: 0 blank, 1 .. 9 A .. I, 10 ~, 11 .. 19 J .. R, 20 [, 21 #, 22 .. 29 S .. Z, 30 .. 39 0 .. 9, 40 .. 55 . , ( ) + - * / = $ < > @ ; : '");
        String all = " ABCDEFGHI~JKLMNOPQR[#STUVWXYZ0123456789.,()+-*/=$<>@;:'";
        Check.due("codes in all", all.length(), 56);
        for (int c = 0; c < 256; c++) {
            if (c == '\n') {
                continue;
            }
            int code = all.indexOf((char) c);
            for (int at = 0; at < 5; at++) {
                String text = " ALF " + "     ".substring(5 - at) + (char) c;
                if (code < 0) {
                    badLine(text, 1);
                } else {
                    line(text, code << 6 * (4 - at));
                }
            }
        }
    }

    private static void bytesInLabels() {
        Check.sentence("1 a byte that can't come (in a LABEL, which goes up to the first blank, whatever it is)");
        for (int c = 0; c < 256; c++) {
            boolean can = c >= 'A' && c <= 'Z' || c >= '0' && c <= '9';
            if (c == '\n' || c == ' ') {
                continue;
            }
            if (can) {
                line("X" + (char) c + " CON 5", 5);
                continue;
            }
            badLine("X" + (char) c + " NOP", 1);
            badLine("X" + (char) c + "Y FOO", 1);
            if (c != ';') {
                badLine((char) c + " NOP", 1);
            }
        }
        badLine("X,NOP", 1);
        badLine("$", 1);
    }

    private static void bytesInArguments() {
        Check.sentence("1 a byte that can't come in an ARGUMENT");
        for (int c = 0; c < 256; c++) {
            boolean name = c >= 'A' && c <= 'Z' || c >= '0' && c <= '9';
            if (c == '\n' || c == ' ' || name) {
                continue;
            }
            String s = "" + (char) c;
            if ("+-=*,(".indexOf(c) < 0) {
                badLine(" LDA " + s, 1);
            }
            if ("+-*/:,(".indexOf(c) < 0) {
                badLine(" LDA 7" + s, 1);
                badLine(" LDA L" + s, 1);
                badLine(" LDA 1F" + s, 1);
                badLine(" CON 7" + s, 1);
            }
            if ("+-*".indexOf(c) < 0) {
                badLine(" LDA 7," + s, 1);
                badLine(" LDA 7(" + s, 1);
                badLine(" LDA =" + s, 1);
                badLine(" CON " + s, 1);
                badLine(" ORIG " + s, 1);
                badLine(" END " + s, 1);
            }
            if (c != '*') {
                badLine(" CON 7+" + s, 1);
                badLine(" CON -" + s, 1);
            }
            badLine(" LDA 7(9)" + s, 1);
            if (c != ',') {
                badLine(" CON 7(5)" + s, 1);
            }
            if (c != ',' && c != '(') {
                badLine(" LDA =7=" + s, 1);
            }
        }
    }

    private static void endsTooEarly() {
        Check.sentence("1: or the line's end too early");
        String[] lines = {"A", "A ", "A    ", "1H", "1H ", "12345", " CON", " CON ", "A EQU", "A EQU ", " ORIG", " ORIG   ", " END", " END ", " LDA +", " LDA -", " LDA 7+", " LDA 7*", " LDA 7:", " LDA 7,", " LDA ,",
            " LDA 7,-", " LDA (", " LDA 7(", " LDA 7(5", " LDA 7(-", " LDA =", " LDA =7", " LDA =7,", " LDA =7(", " LDA =7(5", " LDA =7(5)", " CON 7,", " CON 7(", " CON 7(5", " CON 7/", " CON -", " LDA L,", " LDA L("};
        for (String line : lines) {
            badLine(line, 1);
            badLine(line + " ", 1);
            bad(" NOP\n" + line, 1, 2);
        }
    }

    private static void tooLong() {
        Check.sentence("1: a name or number that is too long");
        String[] names = {"ABCDEFGHI", "123456789A", "12345678A", "A12345678", "ABCDEFGHIJKLMNOPQRSTUVWXYZ0123456789"};
        for (String name : names) {
            badLine(name + " NOP", 1);
            badLine(name, 1);
            badLine(" LDA " + name, 1);
            badLine(" LDA " + name + "+1", 1);
            badLine(" LDA 7," + name, 1);
            badLine(" LDA 7(" + name + ")", 1);
            badLine(" LDA =" + name + "=", 1);
            badLine("X EQU " + name, 1);
        }
        String[] numbers = {"12345678901", "00000000000", "12345678901234567890123456789012345678901234567890"};
        for (String number : numbers) {
            badLine(" LDA " + number, 1);
            badLine(" LDA 7," + number, 1);
            badLine(" LDA 7(" + number + ")", 1);
            badLine(" CON 7/" + number, 1);
            badLine(" END " + number, 1);
        }
    }

    private static void opsThatAreNone() {
        Check.sentence("2 an OP (all up to a blank, or the line's end) that is none");
        String[] none = {"FOO", "NO", "NOPP", "LD", "LD7", "LD0", "LDJ", "LDZ", "LDJN", "LDZN", "STJN", "ST7", "JJN", "JZZ", "J7N", "INCJ", "DEC0", "ENTZ", "ENN7", "CMPJ", "CMP", "JN", "JZ", "JNZ", "nop", "NOP,1", "NOP;",
            "CON(5)", "EQU=", "ENDE", "ALF5", "ALFF", "5", "*", ";", "$", "\u00ce\u00cf\u00d0", "ABCDEFGHIJKLMNOPQRSTUVWXYZ"};
        for (String op : none) {
            badLine(" " + op, 2);
            badLine(" " + op + " ", 2);
            badLine("A " + op + " $", 2);
        }
    }

    private static void labelsToldBefore() {
        Check.sentence("3 a LABEL told before (is asked behind the OP; of EQU at its end)");
        String[] lines = {"A NOP", "A NOP $", "A CON $", "A CON 1/0", "A ORIG 4000", "A ALF a", "A END $", "A LDA ,7", "A EQU 5", "A EQU 0"};
        for (String line : lines) {
            bad("A NOP\n" + line + END, 3, 2);
            bad("A EQU 9\n" + line + END, 3, 2);
        }
        bad("A NOP\nA FOO" + END, 2, 2);
        bad("A NOP\nA" + END, 1, 2);
        bad("A NOP\nA EQU" + END, 1, 2);
        bad("A NOP\nA EQU 5$" + END, 1, 2);
        bad("A NOP\nA EQU L" + END, 3, 2);
        bad("A NOP\nA EQU 1/0" + END, 4, 2);
        bad("A NOP\nA EQU 1(6)" + END, 4, 2);
    }

    private static void localLabels() {
        Check.sentence("3: or LOCAL with B or F (met at the blank behind it; without one the line's end comes too early: 1)");
        for (int d = 0; d <= 9; d++) {
            for (String letter : new String[] {"B", "F"}) {
                String label = d + letter;
                badLine(label + " NOP", 3);
                badLine(label + " ", 3);
                badLine(label + " FOO $", 3);
                badLine(label + " EQU $", 3);
                badLine(label, 1);
                badLine(label + "$ NOP", 1);
                line(label + "B CON 5", 5);
                line("0" + label + " CON 5", 5);
            }
        }
    }

    private static void namesNotTold() {
        Check.sentence("3: a name in EXP not told, a LOCAL with B that has none before");
        String[] names = {"L", "2B", "1234567A"};
        for (String n : names) {
            String[] lines = {" CON #", " CON -#", " CON 1+#", " CON #$", " CON 1,#", " CON 1(#)", " LDA -#", " LDA #+1", " LDA 1:#", " LDA 1,#", " LDA 1(#)", " LDA =#=", " LDA =1(#)=", "X EQU #", " ORIG #", " END #",
                "X CON X+#", "2H CON #"};
            for (String line : lines) {
                badLine(line.replace("#", n), 3);
            }
        }
        badLine(" LDA 2B", 3);
        badLine("2H LDA 2B", 3);
        bad(" LDA L\n CON L\nL NOP" + END, 3, 2);
        bad(" CON 2B\n2H NOP" + END, 3, 1);
        bad("1H NOP\n CON 2B" + END, 3, 2);
    }

    private static void localsWithNoneBehind() {
        Check.sentence("3: one with F that has none behind it (this one when all else is without fault)");
        bad(" JMP 1F" + END, 3, 1);
        bad("1H JMP 1F" + END, 3, 1);
        bad("1H NOP\n JMP 1F\n2H NOP" + END, 3, 2);
        bad(" NOP\n JMP 1F\n END 0\n1H NOP", 3, 2);
        bad(" JMP 1F\n FOO" + END, 2, 2);
        bad(" JMP 1F\n CON L" + END, 3, 2);
        bad(" JMP 1F\n CON $" + END, 1, 2);
        bad(" JMP 1F\n CON 1/0" + END, 4, 2);
        bad(" JMP 1F\n\n\n", 6, 3);
        bad(" JMP 1F\n END 4000", 4, 2);
        good(" JMP 1F\n1H END 0");
    }

    private static void addresses() {
        Check.sentence("4: an address beyond 4095 in size (judged when the ARGUMENT was read)");
        line(" LDA 4095", instruction(4095, 0, 5, 8));
        line(" LDA -4095", -instruction(4095, 0, 5, 8));
        line(" LDA 1", instruction(1, 0, 5, 8));
        line(" LDA -1", -instruction(1, 0, 5, 8));
        badLine(" LDA 4096", 4);
        badLine(" LDA -4096", 4);
        badLine(" LDA 1073741823", 4);
        badLine(" LDA -1073741823", 4);
        line(" LDA 1073741824", instruction(0, 0, 5, 8));
        bad("A EQU 4096\n LDA A" + END, 4, 2);
        bad("1H EQU -4096\n LDA 1B" + END, 4, 2);
        line(" LDA 5000-905", instruction(4095, 0, 5, 8));
        badLine(" LDA 4096$", 1);
        badLine(" LDA 4096,", 1);
        badLine(" LDA 4096,L", 3);
        badLine(" LDA 4096(L)", 3);
        badLine(" LDA 4096(5", 1);
        badLine(" LDA 4096 $", 4);
    }

    private static void addressesToldLater() {
        Check.sentence("and 4 for an address that is told later, when all else is without fault: the first line of both");
        word(" LDA Y\nY EQU 4095" + END, 0, 0, instruction(4095, 0, 5, 8));
        word(" LDA Y\nY EQU -4095" + END, 0, 1, instruction(4095, 0, 5, 8));
        word(" LDA 1F\n1H EQU -4095" + END, 0, 1, instruction(4095, 0, 5, 8));
        bad(" LDA Y\nY EQU 4096" + END, 4, 1);
        bad(" LDA Y\nY EQU -4096" + END, 4, 1);
        bad(" LDA Y\nY EQU 1073741823" + END, 4, 1);
        bad(" LDA 1F\n1H EQU 4096" + END, 4, 1);
        bad(" NOP\n LDA Y\n JMP 1F\nY EQU 4096" + END, 4, 2);
        bad(" NOP\n JMP 1F\n LDA Y\nY EQU 4096" + END, 3, 2);
        bad(" JMP 2F\n LDA Y\n JMP 1F\n2H NOP\nY EQU 4096" + END, 4, 2);
        bad(" LDA Y\nY EQU 4096\n FOO" + END, 2, 3);
        bad(" LDA Y\nY EQU 4096", 6, 2);
        bad(" LDA Y\nY EQU 4096\n LDA Y" + END, 4, 3);
    }

    private static void indexes() {
        Check.sentence("4: an INDEX beyond 0 .. 6 (judged when the ARGUMENT was read)");
        line(" LDA 1,0", instruction(1, 0, 5, 8));
        line(" LDA 1,6", instruction(1, 6, 5, 8));
        badLine(" LDA 1,7", 4);
        badLine(" LDA 1,-1", 4);
        badLine(" LDA 1,1073741823", 4);
        line(" LDA 1,-0", instruction(1, 0, 5, 8));
        line(" LDA 1,1073741824", instruction(1, 0, 5, 8));
        badLine(" LDA L,7", 4);
        badLine(" LDA =1=,7", 4);
        badLine(" LDA 1F,7", 4);
        badLine(" LDA 1,7$", 1);
        badLine(" LDA 1,7(", 1);
        badLine(" LDA 1,7(L)", 3);
    }

    private static void fieldsOfOperations() {
        Check.sentence("4: F beyond 0 .. 63 (judged when the ARGUMENT was read)");
        line(" LDA 1(0)", instruction(1, 0, 0, 8));
        line(" LDA 1(63)", instruction(1, 0, 63, 8));
        line(" LDA 1(7:7)", instruction(1, 0, 63, 8));
        line(" HLT 1(6)", instruction(1, 0, 6, 5));
        badLine(" LDA 1(64)", 4);
        badLine(" LDA 1(8:0)", 4);
        badLine(" LDA 1(-1)", 4);
        badLine(" LDA 1(1073741823)", 4);
        badLine(" LDA 1(64", 1);
        badLine(" LDA 1(64)$", 1);
        badLine(" LDA L(64)", 4);
        badLine(" NOP (64)", 4);
    }

    private static void fieldsOfWords() {
        Check.sentence("4: a field in W that is none (judged behind its bracket)");
        for (int f = 0; f < 70; f++) {
            boolean field = f < 64 && f / 8 <= f % 8 && f % 8 <= 5;
            if (field) {
                good(" CON 0(" + f + ")" + END);
                good("A EQU 0(" + f + ")" + END);
                good(" LDA =0(" + f + ")=" + END);
            } else {
                badLine(" CON 0(" + f + ")", 4);
                badLine("A EQU 0(" + f + ")", 4);
                badLine(" LDA =0(" + f + ")=", 4);
                badLine(" CON 0(" + f + ")$", 4);
                badLine(" CON 0(" + f + "),L", 4);
                badLine(" CON 0(" + f, 1);
                badLine(" CON 0(" + f + "$", 1);
            }
        }
        badLine(" CON 0(-1)", 4);
        badLine(" CON 0(1073741823)", 4);
        badLine(" CON 0(-1073741823)", 4);
        badLine(" ORIG 0(6)", 4);
        badLine(" END 0(6)", 4);
    }

    private static void divisors() {
        Check.sentence("4: / by 0");
        badLine(" CON 1/0", 4);
        badLine(" CON 0/0", 4);
        badLine(" CON 1/1073741824", 4);
        badLine(" LDA 1/0", 4);
        badLine(" LDA 1,1/0", 4);
        badLine(" LDA 1(1/0)", 4);
        badLine(" LDA =1/0=", 4);
        badLine(" CON 1/0$", 4);
        badLine(" CON 1/0+L", 4);
        bad(" CON 1/*" + END, 4, 1);
        bad("Z EQU 0\n CON 1/Z" + END, 4, 2);
        bad("Z EQU -1(0)\n CON 1/Z" + END, 4, 2);
        line(" CON 1/1", 1);
    }

    private static void numbersOnTheWay() {
        Check.sentence("4: more than 64 to the 5th less 1 on the way");
        line(" CON 1073741822+1", MAX);
        badLine(" CON 1073741823+1", 4);
        badLine(" CON 1073741823+1-1", 4);
        line(" CON -1073741822-1", -MAX);
        badLine(" CON -1073741823-1", 4);
        badLine(" CON -1073741823-1+1", 4);
        line(" CON 357913941*3", MAX);
        badLine(" CON 357913942*3", 4);
        badLine(" CON 32768*32768", 4);
        badLine(" CON 32768*32768/32768", 4);
        badLine(" CON 65536*65536", 4);
        badLine(" CON 1073741823*1073741823", 4);
        badLine(" CON -1073741823*1073741823", 4);
        line(" CON 134217727:7", MAX);
        badLine(" CON 134217727:8", 4);
        badLine(" CON 134217728:0", 4);
        badLine(" CON 536870912:0", 4);
        badLine(" CON -134217728:0", 4);
        badLine(" LDA 1073741823+1", 4);
        badLine(" CON 1073741823+1$", 4);
        badLine(" CON 1073741823+1+L", 4);
    }

    private static void places() {
        Check.sentence("4: a PLACE beyond 0 .. 3999 (of a word that comes)");
        String[] words = {" NOP", " CON 1", " ALF A", " LDA 1"};
        for (String w : words) {
            good(" ORIG 3999\n" + w + END);
            bad(" ORIG 3999\n" + w + "\n" + w + END, 4, 3);
            bad(" ORIG 3998\n" + w + "\n" + w + "\n" + w + END, 4, 4);
        }
        good(" ORIG 3998\n LDA =1=" + END);
        bad(" ORIG 3999\n LDA =1=" + END, 4, 3);
        good(" ORIG 3998\n LDA L" + END);
        bad(" ORIG 3999\n LDA L" + END, 4, 3);
        bad(" ORIG 3998\n LDA =1=\n LDA L\n\n END 0\n", 4, 5);
        good(" ORIG 3999\n NOP\nA EQU *\n ORIG *-1\n CON 5" + END);
        bad(" ORIG 3999\n NOP\n CON $" + END, 1, 3);
    }

    private static void placesOfOrigAndEnd() {
        Check.sentence("4: a PLACE beyond 0 .. 3999 (of ORIG and END's W, of EQU not)");
        good(" ORIG 3999" + END);
        good(" ORIG 0" + END);
        badLine(" ORIG 4000", 4);
        badLine(" ORIG -1", 4);
        badLine(" ORIG 1073741823", 4);
        badLine(" ORIG 4000$", 1);
        Check.due("END 3999", good(" END 3999").state(0), 3999);
        bad(" END 4000", 4, 1);
        bad(" END -1", 4, 1);
        bad(" END -1073741823", 4, 1);
        good("A EQU 4000\nB EQU -1\nC EQU 1073741823" + END);
        bad(" ORIG 3999\n NOP\n ORIG *" + END, 4, 3);
        bad(" ORIG 3999\n NOP\n END *", 4, 3);
    }

    private static String repeated(int from, int many, String form) {
        StringBuilder s = new StringBuilder();
        for (int i = from; i < from + many; i++) {
            s.append(form.replace("#", "S" + i)).append("\n");
        }
        return s.toString();
    }

    private static void symbolsInAll() {
        Check.sentence("5 more than 60 SYMBOLS");
        String[] forms = {"# NOP", "# EQU 5", " JMP #", "# CON 1"};
        String[] more = {"X NOP", "X EQU 5", " JMP X", "X END 0"};
        for (String form : forms) {
            String sixty = repeated(0, 60, form);
            good(sixty + " END 0");
            good(sixty + "1H JMP 1F\n1H JMP 1B\n JMP S0\n JMP S59\n END 0");
            for (String m : more) {
                bad(sixty + m + END, 5, 61);
                good(repeated(1, 59, form) + m + END);
            }
        }
        String mixed = repeated(0, 20, "# NOP") + repeated(20, 20, " JMP #") + repeated(40, 20, "# EQU 3") + repeated(20, 20, "# NOP");
        good(mixed + " END 0");
        bad(mixed + "X NOP" + END, 5, 81);
    }

    private static void literalsInAll() {
        Check.sentence("5: or 40 LITERALS");
        String forty = repeated(0, 40, " LDA =5=");
        SignMachine x = good(forty + " END 0");
        Rig.dueMem("the last of 40", x, 79, 0, 5);
        bad(forty + " LDA =5=" + END, 5, 41);
        bad(forty + " LDA =6=" + END, 5, 41);
        good(forty + repeated(0, 60, " JMP #") + " END 0");
        bad(forty + repeated(0, 60, " JMP #") + " JMP X" + END, 5, 101);
        bad(repeated(0, 60, " JMP #") + forty + " LDA =6=" + END, 5, 101);
    }

    private static void noEnd() {
        Check.sentence("6 no END (its line: how many lines there are)");
        bad("", 6, 0);
        bad(" ", 6, 1);
        bad("\n", 6, 1);
        bad("\n\n", 6, 2);
        bad(" NOP", 6, 1);
        bad(" NOP\n", 6, 1);
        bad(" NOP\n ", 6, 2);
        bad(" NOP\n\n", 6, 2);
        bad("; END 0", 6, 1);
        bad("\n".repeat(4000), 6, 4000);
        bad(" LDA =1=\n LDA L\n", 6, 2);
    }

    private static void firstOnes() {
        Check.sentence("FAULTS, the first line with one, of it the first that reading from the left meets");
        String[] lines = {"A$ NOP", " FOO", " CON L", " CON 1/0"};
        for (int i = 0; i < 4; i++) {
            for (int j = 0; j < 4; j++) {
                bad(" NOP\n" + lines[i] + "\n" + lines[j] + END, i + 1, 2);
            }
            bad(" NOP\n" + lines[i], i + 1, 2);
            bad("X NOP\n" + lines[i] + "\nX NOP" + END, i + 1, 2);
        }
        badLine("A$ FOO $", 1);
        badLine("A FOO $", 2);
        badLine("A CON L+1/0$", 3);
        badLine("A CON 1/0+L$", 4);
        badLine("A CON $/0+L", 1);
        badLine("A LDA 1/0,L($", 4);
        badLine("A LDA 1,L($", 3);
        badLine("A LDA 1($,L", 1);
        badLine("A LDA 4096,7(64)$", 1);
        badLine("A LDA 4096,7(64) $", 4);
    }

    private static void nextText() {
        Check.sentence("PLACE, which starts at 0; SYMBOLS that were told: of this text, not of one before");
        SignMachine x = new SignMachine();
        String[] before = {"A NOP\n1H LDA =1=\n JMP L\n JMP 2F\n2H NOP\n END 3", "A NOP\n1H LDA =1=\n JMP L\n JMP 2F\n", "A NOP\n1H LDA =1=\n JMP L\n FOO"};
        int[] faults = {0, 6, 2};
        for (int i = 0; i < before.length; i++) {
            Check.due("the text before", Rig.assemble(x, before[i]), faults[i]);
            Check.due("LABEL", Rig.assemble(x, "A CON 8\n CON A" + END), 0);
            Rig.dueMem("PLACE 0", x, 0, 0, 8);
            Rig.dueMem("PLACE 1", x, 1, 0, 0);
            Check.due("nothing else follows", x.about(1), 2);
            Check.due("the text before", Rig.assemble(x, before[i]), faults[i]);
            Check.due("a name", Rig.assemble(x, " CON A" + END), 3);
            Check.due("the text before", Rig.assemble(x, before[i]), faults[i]);
            Check.due("a LOCAL", Rig.assemble(x, " CON 1B" + END), 3);
            Check.due("the text before", Rig.assemble(x, before[i]), faults[i]);
            Check.due("the next LOCAL is no goal of it", Rig.assemble(x, " NOP\n2H NOP" + END), 0);
            Rig.dueMem("PLACE 0", x, 0, 0, 0);
        }
    }
}
