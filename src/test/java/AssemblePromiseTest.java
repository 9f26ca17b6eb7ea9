/** Promises 15 and 16: texts, the words that they become, and their faults. */
public final class AssemblePromiseTest {
    private static final int MAX = Rig.MAX;
    private static final int MINUS_ZERO = Integer.MIN_VALUE;
    private static final String END = "\n END 0";

    public static void main(String[] args) {
        operations();
        namesThatAreNoOperations();
        arguments();
        expressions();
        wordsOfFields();
        symbols();
        laterSymbols();
        locals();
        literals();
        places();
        characters();
        lines();
        ends();
        faultsOfLabels();
        faultsOfOps();
        faultsOfArguments();
        faultsOfNames();
        faultsOfNumbers();
        faultsOfPlaces();
        faultsAtTheEnd();
        tooMany();
        noEnd();
        firstFault();
        faultsChangeNothing();
        textsOneAfterAnother();
        longest();
        aProgram();
        Check.end();
    }

    /** The text has no fault, and becomes these words from a place on. */
    private static SignMachine good(String text, int from, int... words) {
        SignMachine x = new SignMachine();
        Check.due("<" + text + ">", Rig.assemble(x, text), 0);
        Check.due("<" + text + ">: about(0)", x.about(0), 0);
        for (int i = 0; i < words.length; i++) {
            boolean minusZero = words[i] == MINUS_ZERO;
            Rig.dueMem("<" + text + ">", x, from + i, words[i] < 0 ? 1 : 0, minusZero ? 0 : Math.abs(words[i]));
        }
        return x;
    }

    private static void bad(String text, int fault, int line) {
        SignMachine x = new SignMachine();
        Check.due("<" + text + ">", Rig.assemble(x, text), fault);
        Check.due("<" + text + ">: about(0)", x.about(0), line);
        Check.due("<" + text + ">: about(1)", x.about(1), -1);
        Check.due("<" + text + ">: about(2)", x.about(2), 0);
        Check.due("<" + text + ">: state(0)", x.state(0), 0);
    }

    /** A fault of one line, with lines before and behind it that have none. */
    private static void badLine(String line, int fault) {
        bad("T EQU 7\n1H NOP\n" + line + "\n NOP\n END 0", fault, 3);
    }

    private static void goodLine(String line, int word) {
        good("T EQU 7\n1H NOP\n" + line + "\n NOP\n END 0", 1, word);
    }

    private static int instruction(int address, int index, int f, int c) {
        int size = Math.abs(address) << 18 | index << 12 | f << 6 | c;
        return address < 0 ? -size : size;
    }

    private static void operation(String name, int c, int f) {
        good(" " + name + " 100,2" + END, 0, instruction(100, 2, f, c));
        good(" " + name + END, 0, instruction(0, 0, f, c));
        good(" " + name + " -9,3(61)" + END, 0, instruction(-9, 3, 61, c));
    }

    private static void operations() {
        String[] fixed = {"NOP", "ADD", "SUB", "MUL", "DIV", "NUM", "CHAR", "HLT", "SLA", "SRA", "SLAX", "SRAX", "SLC", "SRC", "MOVE",
            "STJ", "STZ", "JBUS", "IOC", "IN", "OUT", "JRED", "JMP", "JSJ", "JOV", "JNOV", "JL", "JE", "JG", "JGE", "JNE", "JLE"};
        int[] cs = {0, 1, 2, 3, 4, 5, 5, 5, 6, 6, 6, 6, 6, 6, 7, 32, 33, 34, 35, 36, 37, 38, 39, 39, 39, 39, 39, 39, 39, 39, 39, 39};
        int[] fs = {0, 5, 5, 5, 5, 0, 1, 2, 0, 1, 2, 3, 4, 5, 1, 2, 5, 0, 0, 0, 0, 0, 0, 1, 2, 3, 4, 5, 6, 7, 8, 9};
        for (int i = 0; i < fixed.length; i++) {
            operation(fixed[i], cs[i], fs[i]);
        }
        String registers = "A123456X";
        for (int r = 0; r < 8; r++) {
            String n = registers.substring(r, r + 1);
            operation("LD" + n, 8 + r, 5);
            operation("LD" + n + "N", 16 + r, 5);
            operation("ST" + n, 24 + r, 5);
            operation("J" + n + "N", 40 + r, 0);
            operation("J" + n + "Z", 40 + r, 1);
            operation("J" + n + "P", 40 + r, 2);
            operation("J" + n + "NN", 40 + r, 3);
            operation("J" + n + "NZ", 40 + r, 4);
            operation("J" + n + "NP", 40 + r, 5);
            operation("INC" + n, 48 + r, 0);
            operation("DEC" + n, 48 + r, 1);
            operation("ENT" + n, 48 + r, 2);
            operation("ENN" + n, 48 + r, 3);
            operation("CMP" + n, 56 + r, 5);
        }
    }

    private static void namesThatAreNoOperations() {
        String[] none = {"FOO", "nop", "NO", "NOPE", "LD", "LD0", "LD7", "LDJ", "LDZ", "LDNA", "LDAA", "STJN", "STAN", "ST", "STJJ", "STY", "JA", "J1",
            "JAL", "JJN", "JZN", "J0N", "J7Z", "JANNN", "JNN", "JN", "INC", "INC0", "INCJ", "DECZ", "ENT7", "ENN", "CMP", "CMPJ", "CMPAN", "LD?", "J?N", "INC?", "?",
            "JLT", "IN1", "EQU1", "EQ", "ORI", "CONS", "ALFA", "ENDS", "EN", "NOP,", "NOP;", "1", "*", "JMP(1)", "SLAXX", "CHA", "MOV", ";", "-", "HL", "\t", "N\u00d0P"};
        for (String op : none) {
            badLine(" " + op + " 1", 2);
            badLine("X  " + op, 2);
        }
    }

    private static void arguments() {
        goodLine(" LDA 5", instruction(5, 0, 5, 8));
        goodLine(" LDA    5", instruction(5, 0, 5, 8));
        goodLine("    LDA 5    ", instruction(5, 0, 5, 8));
        goodLine(" LDA 5 anything, (of it) =", instruction(5, 0, 5, 8));
        goodLine(" LDA ,1", instruction(0, 1, 5, 8));
        goodLine(" LDA (3)", instruction(0, 0, 3, 8));
        goodLine(" LDA ,6(63)", instruction(0, 6, 63, 8));
        goodLine(" LDA ,0(0)", instruction(0, 0, 0, 8));
        goodLine(" LDA 4095,6(0:5)", instruction(4095, 6, 5, 8));
        goodLine(" LDA -4095,1+1(1:3)", instruction(-4095, 2, 11, 8));
        goodLine(" LDA T,T-5(T)", instruction(7, 2, 7, 8));
        goodLine(" LDA *", instruction(1, 0, 5, 8));
        goodLine(" LDA *+1,*(*)", instruction(2, 1, 1, 8));
        goodLine(" LDA 1B", instruction(0, 0, 5, 8));
        goodLine(" HLT 0(0)", instruction(0, 0, 0, 5));
        goodLine(" LDA -0", instruction(0, 0, 5, 8));
        goodLine(" LDA 5-5", instruction(0, 0, 5, 8));
        goodLine(" LDA 1073741824", instruction(0, 0, 5, 8));
        goodLine(" NOP", 0);
    }

    private static void expressions() {
        goodLine(" CON 0", 0);
        goodLine(" CON -0", 0);
        goodLine(" CON -1*0", 0);
        goodLine(" CON +5", 5);
        goodLine(" CON -5", -5);
        goodLine(" CON 1+2*3", 9);
        goodLine(" CON 1-2*3", -3);
        goodLine(" CON -1-2", -3);
        goodLine(" CON -7/2", -3);
        goodLine(" CON 7/2*2", 6);
        goodLine(" CON 1/2", 0);
        goodLine(" CON -1/2", 0);
        goodLine(" CON 1:3", 11);
        goodLine(" CON 1:2:3", 83);
        goodLine(" CON -1:3", -5);
        goodLine(" CON 2+1:1*2", 50);
        goodLine(" CON ***", 1);
        goodLine(" CON *-*", 0);
        goodLine(" CON *+*", 2);
        goodLine(" CON -*", -1);
        goodLine(" CON T*T", 49);
        goodLine(" CON 1073741823", MAX);
        goodLine(" CON -1073741823", -MAX);
        goodLine(" CON 1073741824", 0);
        goodLine(" CON 1073741825", 1);
        goodLine(" CON 9999999999", 336323583);
        goodLine(" CON 0000000001", 1);
        goodLine(" CON 1073741822+1", MAX);
        goodLine(" CON 0-1073741822-1", -MAX);
        goodLine(" CON 1073741823-1073741823+5", 5);
        goodLine(" CON 32767*32768", 1073709056);
        goodLine(" CON 134217727:7", MAX);
    }

    private static void wordsOfFields() {
        goodLine(" CON 1(0:0)", 0);
        goodLine(" CON -1(0:0)", MINUS_ZERO);
        goodLine(" CON -1(0:0),5(5:5)", -5);
        goodLine(" CON 5(5:5),-1(0:0)", -5);
        goodLine(" CON -5,1(0:0)", 5);
        goodLine(" CON -5,7(1:1)", -Rig.bytes(7, 0, 0, 0, 5));
        goodLine(" CON 1(1:1),2(2:2),3(3:3),4(4:4),5(5:5)", Rig.bytes(1, 2, 3, 4, 5));
        goodLine(" CON 66(1:1)", Rig.bytes(2, 0, 0, 0, 0));
        goodLine(" CON -66(0:2)", -Rig.bytes(1, 2, 0, 0, 0));
        goodLine(" CON -66(2:3)", Rig.bytes(0, 1, 2, 0, 0));
        goodLine(" CON 1(2:4),2", 2);
        goodLine(" CON 1073741823(2:4)", Rig.bytes(0, 63, 63, 63, 0));
        goodLine(" CON 1073741823,0(2:4)", Rig.bytes(63, 0, 0, 0, 63));
        goodLine(" CON 5(5)", 5);
        goodLine(" CON 5(13)", 5);
        goodLine(" CON T(T-2) and more", 7);
        goodLine(" CON T(45)", 7);
    }

    private static void symbols() {
        good("A NOP\nB NOP A\nC NOP C\n NOP B+C\nABCDEFGH NOP ABCDEFGH\n CON ABCDEFGH" + END, 0, 0, instruction(0, 0, 0, 0), instruction(2, 0, 0, 0),
            instruction(3, 0, 0, 0), instruction(4, 0, 0, 0), 4);
        good("1A NOP\n12H NOP\n1H1 NOP\nH NOP\nB NOP\nH1 NOP\n CON 1A,12H(4:4),1H1(3:3)\n CON H1*B" + END, 6, Rig.bytes(0, 0, 2, 1, 0), 20);
        good("E EQU -5\n CON E\n LDA E\nF EQU E*E\n CON F(1:1)" + END, 0, -5, instruction(-5, 0, 5, 8), Rig.bytes(25, 0, 0, 0, 0));
        good(" NOP\nP EQU *\nQ CON Q\n CON P" + END, 1, 1, 1);
        good("NOP NOP NOP\nEND CON END\nEQU EQU 5\n CON EQU" + END, 0, 0, 1, 5);
        good("X EQU 1073741823\n CON X\nY EQU -X\n CON Y" + END, 0, MAX, -MAX);
        good("Z EQU -1(0:0)\n CON Z\n LDA Z" + END, 0, 0, instruction(0, 0, 5, 8));
        good(" EQU 5" + END, 0, 0);
        good("O ORIG O+5\n CON O\nP ORIG 9\n CON P" + END, 5, 0, 0, 0, 0, 6);
        good("A ALF ABC\n CON A+5" + END, 1, 5);
        good("TOLD NOP\nTOLDER NOP\nTOL CON TOLD,TOLDER(4:4)" + END, 2, Rig.bytes(0, 0, 0, 1, 0));
    }

    private static void laterSymbols() {
        SignMachine x = good(" LDA L,2(1:3)\n STA M\n LDA L\nL NOP" + END, 0, instruction(3, 2, 11, 8), instruction(4, 0, 5, 24), instruction(3, 0, 5, 8), 0, 0);
        Check.due("about(1)", x.about(1), 4);
        x = good(" LDA N1\n LDA N2\n LDA =9=\n LDA N1\n LDA N3\nN2 NOP" + END, 0, instruction(6, 0, 5, 8), instruction(5, 0, 5, 8), instruction(7, 0, 5, 8),
            instruction(6, 0, 5, 8), instruction(8, 0, 5, 8), 0, 0, 9, 0);
        Check.due("about(1)", x.about(1), 6);
        good(" LDA L\nL EQU -4095" + END, 0, instruction(-4095, 0, 5, 8));
        good(" LDA L\nL EQU 0" + END, 0, instruction(0, 0, 5, 8));
        good(" LDA L remark" + END, 0, instruction(1, 0, 5, 8), 0);
        x = new SignMachine();
        x.poke(1, 1, 99);
        Check.due("never told", Rig.assemble(x, " LDA L" + END), 0);
        Rig.dueMem("never told becomes + 0", x, 1, 0, 0);
    }

    private static void locals() {
        good("1H JMP 1F\n1H JMP 1B\n JMP 1B\n1H JMP 1B" + END, 0, instruction(1, 0, 0, 39), instruction(0, 0, 0, 39), instruction(1, 0, 0, 39), instruction(1, 0, 0, 39));
        good(" JMP 9F\n JMP 9F\n JMP 0F\n9H JMP 9F\n0H JMP 9B\n9H JMP 0B" + END, 0, instruction(3, 0, 0, 39), instruction(3, 0, 0, 39), instruction(4, 0, 0, 39),
            instruction(5, 0, 0, 39), instruction(3, 0, 0, 39), instruction(4, 0, 0, 39));
        good("2H EQU 77\n LDA 2B\n LDA 2F\n2H EQU -8\n LDA 2B+1" + END, 0, instruction(77, 0, 5, 8), instruction(-8, 0, 5, 8), instruction(-7, 0, 5, 8));
        good("3H EQU 5\n3H EQU 3B+1\n CON 3B" + END, 0, 6);
        good(" JMP 1F\n NOP\n1H END 0", 0, instruction(2, 0, 0, 39));
        good(" JMP 1F\n1H ORIG 10\n CON 1B" + END, 10, 1);
        good(" JMP 1F\n1H ORIG 10\n CON 1B" + END, 0, instruction(1, 0, 0, 39));
        good("1H CON 5\n1H ALF A\n CON 1B" + END, 2, 1);
        good("1H CON 5\n1H CON 1B-7\n CON 1B" + END, 1, -7, 1);
        good(" JMP 1F,1(3)\n1H NOP" + END, 0, instruction(1, 1, 3, 39));
        good(" LDA 5F,0\n5H CON 1" + END, 0, instruction(1, 0, 5, 8));
        StringBuilder many = new StringBuilder();
        for (int i = 0; i < 70; i++) {
            many.append("1H JMP 1F\n");
        }
        good(many + "1H NOP" + END, 68, instruction(69, 0, 0, 39), instruction(70, 0, 0, 39));
    }

    private static void literals() {
        SignMachine x = good(" LDA =5=\n LDA =-5=,1(2)\n LDA =1(1:1),2(2:2)= more\nT EQU 4\n LDA =T*T=\n LDA =*=" + END, 0,
            instruction(5, 0, 5, 8), instruction(6, 1, 2, 8), instruction(7, 0, 5, 8), instruction(8, 0, 5, 8), instruction(9, 0, 5, 8),
            5, -5, Rig.bytes(1, 2, 0, 0, 0), 16, 4);
        Check.due("about(1)", x.about(1), 5);
        good(" LDA =-1(0:0)=" + END, 0, instruction(1, 0, 5, 8), MINUS_ZERO);
        good(" ORIG 100\n LDA =7=\n ORIG 200\nE END 50", 200, 7);
        good(" ORIG 100\n LDA =7=\n ORIG 200\nE END 50", 100, instruction(200, 0, 5, 8));
        good(" LDA E\n LDA =7=\nE END 0", 0, instruction(2, 0, 5, 8), instruction(2, 0, 5, 8), 7);
    }

    private static void places() {
        good(" ORIG 3\n CON 1\n ORIG 2\n CON 2\n CON 3" + END, 2, 2, 3);
        good(" CON 1\n CON 2\n ORIG 0\n CON 3" + END, 0, 3, 2);
        good(" JMP 1F\n ORIG 0\n CON 3\n1H NOP" + END, 0, 3);
        good(" ORIG 3999\n CON 1" + END, 3999, 1);
        good(" ORIG 3999\n CON 1\nX EQU *\n ORIG 0\n CON X" + END, 0, 4000);
        good(" ORIG 3999\n CON 1\nX ORIG 0\n CON X" + END, 0, 4000);
        good(" ORIG -1(0:0)\n CON 4" + END, 0, 4);
        good(" CON 1\n ORIG *+5\n CON *" + END, 6, 6);
        SignMachine x = good(" ORIG 3990\n LDA Y\n LDA =1=\n END 3990", 3990, instruction(3992, 0, 5, 8), instruction(3993, 0, 5, 8), 0, 1);
        Check.due("STARTS", x.state(0), 3990);
    }

    private static void characters() {
        String codes = " ABCDEFGHI~JKLMNOPQR[#STUVWXYZ0123456789.,()+-*/=$<>@;:'";
        for (int i = 0; i + 5 <= codes.length(); i++) {
            good(" ALF " + codes.substring(i, i + 5) + END, 0, Rig.bytes(i, i + 1, i + 2, i + 3, i + 4));
        }
        for (int c = 0; c < 256; c++) {
            if (c != '\n' && codes.indexOf((char) c) < 0) {
                badLine(" ALF " + (char) c, 1);
                badLine(" ALF ABCD" + (char) c, 1);
                goodLine(" ALF ABCDE " + (char) c, Rig.bytes(1, 2, 3, 4, 5));
            }
        }
        goodLine(" ALF AB", Rig.bytes(1, 2, 0, 0, 0));
        goodLine(" ALF  AB", Rig.bytes(0, 1, 2, 0, 0));
        goodLine(" ALF A B C", Rig.bytes(1, 0, 2, 0, 3));
        goodLine(" ALF ABCDE and more", Rig.bytes(1, 2, 3, 4, 5));
        goodLine(" ALF ", 0);
        goodLine(" ALF", 0);
        goodLine("X ALF      ABC", 0);
    }

    private static void lines() {
        good("\n\n   \n;\n; LDA $\n CON 1\n;\n END 0", 0, 1);
        good(" CON 1\n END 0\n", 0, 1);
        good(" CON 1\n END 0\n FOO\n$$$", 0, 1);
        good(" CON 1\n END 0 and more\n END 5", 0, 1);
        bad(" ; no comment here\n END 0", 2, 1);
        bad("\n \n;\n;\n FOO\n END 0", 2, 5);
        bad("\t\n END 0", 1, 1);
        bad(" NOP\r\n END 0", 2, 1);
    }

    private static void ends() {
        SignMachine x = good(" CON 1\nS CON 2\n END S", 0, 1, 2);
        Check.due("STARTS", x.state(0), 1);
        x = good(" CON 1\nE END E+1(0:5)", 0, 1);
        Check.due("STARTS", x.state(0), 2);
        x = good(" END 3999", 0, 0);
        Check.due("STARTS", x.state(0), 3999);
        Check.due("about(1)", x.about(1), 0);
        x = new SignMachine();
        x.poke(5, 1, 55);
        x.set(0, 1, 66);
        x.step();
        Check.due("good", Rig.assemble(x, " ORIG 4\n CON 1\n ORIG 6\n CON 2\n END 4"), 0);
        Rig.dueMem("a word that does not come stays", x, 5, 1, 55);
        Rig.dueMem("a word that comes", x, 4, 0, 1);
        Rig.dueMem("a word that comes", x, 6, 0, 2);
        Rig.dueReg("registers stay", x, 0, 1, 66);
        Check.due("TIME stays", x.state(3), 1);
        Check.due("again", Rig.assemble(x, "A NOP\n JMP 1F\n1H NOP" + END), 0);
        Check.due("names of a text before are not told", Rig.assemble(x, " CON A" + END), 3);
        Check.due("LOCAL labels of a text before are not told", Rig.assemble(x, " CON 1B" + END), 3);
        Check.due("the same names", Rig.assemble(x, "A NOP\n JMP 1F\n1H NOP" + END), 0);
    }

    private static void faultsOfLabels() {
        badLine("ABCDEFGHI NOP", 1);
        badLine("ABCDEFGHIJKL NOP", 1);
        badLine("123456789 NOP", 1);
        badLine("a NOP", 1);
        badLine("A.B NOP", 1);
        badLine("A,1 NOP", 1);
        badLine("* NOP", 1);
        badLine("A* NOP", 1);
        badLine("12 NOP", 1);
        badLine("1 NOP", 1);
        badLine("A", 1);
        badLine("A ", 1);
        badLine("A    ", 1);
        badLine("1H", 1);
        badLine("1H ", 1);
        badLine("1B", 1);
        badLine("1B ", 3);
        badLine("1B NOP", 3);
        badLine("0F NOP", 3);
        badLine("9B FOO", 3);
        badLine("0B NOP", 3);
        badLine("9F NOP", 3);
        badLine("1B$ NOP", 1);
        badLine("1B EQU 5", 3);
        badLine("A\tNOP", 1);
        badLine("T NOP", 3);
        badLine("T ORIG 5", 3);
        badLine("T ALF A", 3);
        badLine("T CON 5", 3);
        badLine("T END 0", 3);
        badLine("T EQU 5", 3);
        badLine("T EQU 7", 3);
    }

    private static void faultsOfOps() {
        badLine(" FOO", 2);
        badLine("T FOO", 2);
        badLine("T FOO $", 2);
        badLine("a FOO", 1);
        badLine(" NOP\t1", 2);
    }

    private static void faultsOfArguments() {
        String[] texts = {" LDA $", " LDA a", " LDA 5$", " LDA 5,", " LDA 5, 1", " LDA 5,1,2", " LDA 5(1", " LDA 5()", " LDA 5(1)(2)", " LDA 5(1),2",
            " LDA 5(1)2", " LDA =", " LDA ==", " LDA =5", " LDA =5=6", " LDA =5 =", " LDA =5,=", " LDA =5(1=", " LDA 5=", " LDA +", " LDA -", " LDA --5", " LDA 5+", " LDA 5+-1",
            " LDA 5**+", " LDA 5+ 1", " LDA 5:", " LDA /5", " LDA )", " LDA T)", " LDA 12345678901", " LDA ABCDEFGHI", " LDA 123456789A", " LDA ABCDEFGHI+1",
            " LDA .", " LDA ;", " LDA L$", " LDA L=", " LDA L)", " LDA 1F$", " LDA L,", " LDA L(", " CON", " CON ", " CON $", " CON 5,", " CON 5(5", " CON 5(5)6", " CON 5(5)(5)",
            " CON ,5", " CON 5,,5", " CON =5=", " CON (5)", " CON 5=", " CON 99999999999", " EQU", " EQU $", "X EQU", "X EQU 5)", "T EQU $", "T EQU", " ORIG", " ORIG 5$", " END", " END ",
            " END $", " ORIG 5000$", " LDA 5000$", " LDA 1,7$", " LDA 1(64", " LDA 1(64)$", " LDA 5000,", " CON 5(6", " CON 5(6$", " LDA =5(6", " CON 1+", " CON 1/"};
        for (String line : texts) {
            badLine(line, 1);
        }
    }

    private static void faultsOfNames() {
        String[] texts = {" LDA L+1", " LDA -L", " LDA +L", " LDA 1+L", " LDA L:1", " LDA L*2", " LDA L/2", " LDA L-1", " LDA 5,L", " LDA 5(L)", " LDA =L=", " LDA =1(L)=",
            " CON L", " CON 1,L", " CON 1(L)", "X EQU L", "X EQU X", " ORIG L", " END L", " LDA 2B", " CON 2B", " LDA 2B+1", "2H LDA 2B", "2H CON 2B", "2H EQU 2B", "2H END 2B",
            " LDA 2F+1", " LDA -2F", " LDA 1+2F", " CON 2F", " LDA 5,2F", " LDA 1H", " LDA 2H", " CON 1H", " LDA L+$", " CON L$", " CON 2B$", " LDA 5000,L", " LDA 5,L$"};
        for (String line : texts) {
            badLine(line, 3);
        }
        bad("L LDA L+1\nL NOP" + END, 3, 2);
    }

    private static void faultsOfNumbers() {
        String[] texts = {" LDA 4096", " LDA -4096", " LDA 1073741823", " LDA 1,7", " LDA 1,0-1", " LDA 1,-1", " LDA 1(64)", " LDA 1(-1)", " LDA 1(8:0)", " LDA L,7", " LDA =1=,7", " LDA L(64)",
            " LDA ,7", " LDA (64)", " CON 1(6)", " CON 1(7)", " CON 1(8)", " CON 1(46)", " CON 1(2:1)", " CON 1(-1)", " CON 1(0:6)", " CON 1(64)", " CON 1(1000000)", " LDA =1(6)=",
            " CON 1(6)$", " CON 1/0", " CON 0/0", " LDA 1/0", " CON 1/0$", " CON 1/*-1/0", " CON 1073741823+1", " CON 0-1073741823-1", " CON 1073741823*2", " CON 32768*32768", " CON 134217728:0",
            " CON 1073741823+1-1", " CON 1073741823*1073741823", " CON 1073741823+1$", "X EQU 1/0", " ORIG 4000", " ORIG -1", " ORIG 1073741823", " END 4000", " END -1", " ORIG 5-6",
            " LDA 1073741823+1,L", " CON 1073741823-1+1+1,L"};
        for (String line : texts) {
            badLine(line, 4);
        }
    }

    private static void faultsOfPlaces() {
        bad(" ORIG 3999\n NOP\n NOP" + END, 4, 3);
        bad(" ORIG 3999\n NOP\n CON 1" + END, 4, 3);
        bad(" ORIG 3999\n NOP\n ALF A" + END, 4, 3);
        bad(" ORIG 3999\n NOP\n LDA L+1" + END, 3, 3);
        bad(" ORIG 3999\n NOP\n LDA $" + END, 1, 3);
        bad(" ORIG 3999\n NOP\n CON $" + END, 1, 3);
        bad(" ORIG 3999\n LDA =1=" + END, 4, 3);
        bad(" ORIG 3999\n LDA L" + END, 4, 3);
        bad(" ORIG 3998\n LDA L\n LDA =1=\n END 0\n\n", 4, 4);
        good(" ORIG 3998\n LDA L" + END, 3998, instruction(3999, 0, 5, 8), 0);
        good(" ORIG 3999\n NOP\nL END 0", 3999, 0);
    }

    private static void faultsAtTheEnd() {
        bad(" JMP 1F" + END, 3, 1);
        bad("1H JMP 1F" + END, 3, 1);
        bad("1H NOP\n\n JMP 1F" + END, 3, 3);
        bad(" JMP 1F\n NOP\n END 0\n1H NOP", 3, 1);
        bad(" NOP\n JMP 1F\n2H NOP" + END, 3, 2);
        bad(" LDA Y\nY EQU 5000" + END, 4, 1);
        bad(" LDA Y\nY EQU -4096" + END, 4, 1);
        bad(" LDA 1F\n1H EQU 4096" + END, 4, 1);
        bad(" LDA Y\n JMP 1F\nY EQU 5000" + END, 4, 1);
        bad(" JMP 1F\n LDA Y\nY EQU 5000" + END, 3, 1);
        bad(" NOP\n JMP 2F\n JMP 1F\n2H NOP\n LDA Y\nY EQU 5000" + END, 3, 3);
        bad(" JMP 1F\n LDA Y\nY EQU 5000\n FOO" + END, 2, 4);
        bad(" JMP 1F\n LDA $" + END, 1, 2);
        bad("Y EQU 5000\n LDA Y\n FOO" + END, 4, 2);
        bad("1H EQU 5000\n LDA 1B\n FOO" + END, 4, 2);
        bad(" JMP 1F\n NOP", 6, 2);
        bad(" JMP 1F\n END 4000", 4, 2);
        bad(" ORIG 3999\n JMP 1F\n END L", 3, 3);
        bad(" ORIG 3998\n JMP 1F\n LDA L" + END, 4, 4);
    }

    private static String symbolLines(int from, int many, String form) {
        StringBuilder s = new StringBuilder();
        for (int i = from; i < from + many; i++) {
            s.append(form.replace("#", "S" + i)).append("\n");
        }
        return s.toString();
    }

    private static void tooMany() {
        String told = symbolLines(0, 60, "# NOP");
        good(told + " END 0", 0, 0);
        good(told + " JMP S59\n JMP S0\n1H NOP\n JMP 1B\n JMP 1F\n1H END 0", 60, instruction(59, 0, 0, 39));
        bad(told + "S60 NOP" + END, 5, 61);
        bad(told + "S60 NOP $" + END, 5, 61);
        bad(told + "S60 FOO" + END, 2, 61);
        bad(told + "S60 EQU 5" + END, 5, 61);
        bad(told + "S60 EQU $" + END, 1, 61);
        bad(told + "S60 END 0", 5, 61);
        bad(told + "S1 NOP" + END, 3, 61);
        bad(told + " JMP S60" + END, 5, 61);
        bad(told + " JMP S60+1" + END, 3, 61);
        bad(told + " JMP S60,9" + END, 5, 61);
        String stood = symbolLines(0, 60, " JMP #");
        good(stood + " END 0", 0, instruction(60, 0, 0, 39), instruction(61, 0, 0, 39));
        good(stood + symbolLines(0, 60, "# NOP") + " END 0", 0, instruction(60, 0, 0, 39), instruction(61, 0, 0, 39));
        bad(stood + " JMP S60" + END, 5, 61);
        bad(stood + "S60 NOP" + END, 5, 61);
        bad(symbolLines(0, 30, " JMP #") + symbolLines(30, 30, "# EQU 1") + "\n JMP S7\nNEW CON 1" + END, 5, 63);
        String literals = symbolLines(0, 40, " LDA =1=");
        SignMachine x = good(literals + " END 0", 0, instruction(40, 0, 5, 8), instruction(41, 0, 5, 8));
        Rig.dueMem("the last of 40", x, 79, 0, 1);
        bad(literals + " LDA =41=" + END, 5, 41);
        bad(literals + " LDA =41=,9" + END, 5, 41);
        bad(literals + " LDA =41" + END, 1, 41);
        bad(literals + " LDA =L=" + END, 3, 41);
        bad(literals + " LDA =1(6)=" + END, 4, 41);
        String both = symbolLines(0, 60, " JMP #") + literals;
        x = good(both + " END 0", 0, instruction(100, 0, 0, 39));
        Rig.dueMem("the last word", x, 199, 0, 1);
        Rig.dueMem("the word before the LITERALS", x, 159, 0, 0);
        Rig.dueMem("the first LITERAL", x, 160, 0, 1);
    }

    private static void noEnd() {
        bad("", 6, 0);
        bad("\n", 6, 1);
        bad(" NOP", 6, 1);
        bad(" NOP\n", 6, 1);
        bad(" NOP\n\n", 6, 2);
        bad(";END 0", 6, 1);
        bad(" NOP\n  \n;", 6, 3);
        bad(" ORIG 3999\n NOP\n", 6, 2);
    }

    private static void firstFault() {
        bad(" NOP\n FOO\n LDA $\n", 2, 2);
        bad(" NOP\n LDA $\n FOO\n", 1, 2);
        bad(" CON 1/0\n CON L" + END, 4, 1);
        bad(" CON 1/0+L" + END, 4, 1);
        bad(" CON L/0" + END, 3, 1);
        bad(" CON $+L" + END, 1, 1);
        bad("a FOO $" + END, 1, 1);
        bad("1B FOO $" + END, 3, 1);
        bad("A NOP\nA FOO $" + END, 2, 2);
        bad("A NOP\nA NOP $" + END, 3, 2);
        bad("A NOP\nA EQU $" + END, 1, 2);
        bad("A NOP\nA EQU 1/0" + END, 4, 2);
    }

    private static void faultsChangeNothing() {
        String[] texts = {" CON 5\n FOO\n", " CON 5\n JMP 1F" + END, " CON 5", " CON 5\n LDA Y\nY EQU 5000" + END, " ORIG 0\n CON 5\n ORIG 3999\n LDA =1=\n END 7"};
        for (String text : texts) {
            SignMachine x = new SignMachine();
            for (int i = 0; i < 4; i++) {
                x.poke(i, 1, 40 + i);
            }
            x.go(33);
            for (int r = 0; r <= 7; r++) {
                x.set(r, 1, r);
            }
            long[] before = Rig.all(x);
            Check.due("fault", Rig.assemble(x, text) != 0, true);
            Rig.dueSame("fault", Rig.all(x), before);
            for (int i = 0; i < 4; i++) {
                Rig.dueMem("fault", x, i, 1, 40 + i);
            }
            Rig.dueMem("fault", x, 3999, 0, 0);
        }
    }

    /** Nothing of a text is left for the next one. */
    private static void textsOneAfterAnother() {
        SignMachine x = new SignMachine();
        String text = symbolLines(0, 35, "# NOP") + symbolLines(0, 25, " LDA =1=") + "0H JMP 0F\n0H NOP\n9H JMP 9F\n9H END 9B-40";
        for (int turn = 0; turn < 3; turn++) {
            Check.due("good", Rig.assemble(x, text), 0);
            Check.due("about(1)", x.about(1), 63);
            Check.due("STARTS", x.state(0), 22);
            Rig.dueMem("the first LITERAL", x, 35, 0, instruction(63, 0, 5, 8));
            Rig.dueMem("JMP 9F", x, 62, 0, instruction(63, 0, 0, 39));
            Rig.mem(x, 0, -1);
            Rig.mem(x, 35, -2);
            Rig.mem(x, 87, -3);
        }
        Check.due("good", Rig.assemble(x, " ORIG 50\nS0 CON 5\n LDA S1\n END S0"), 0);
        Rig.dueMem("CON", x, 50, 0, 5);
        Rig.dueMem("a name of a text before", x, 51, 0, instruction(52, 0, 5, 8));
        Rig.dueMem("a word of a text before does not come again", x, 0, 1, 1);
        Rig.dueMem("a word of a text before does not come again", x, 35, 1, 2);
        Rig.dueMem("a LITERAL of a text before does not come again", x, 87, 1, 3);
        Check.due("0B of a text before", Rig.assemble(x, " LDA 0B" + END), 3);
        Check.due("9B of a text before", Rig.assemble(x, " LDA 9B" + END), 3);
        Check.due("0F of a text before", Rig.assemble(x, " LDA 0F" + END), 3);
        Check.due("an open address of a text before", Rig.assemble(x, " END 0"), 0);
        Check.due("good", Rig.assemble(x, " CON 7" + END), 0);
        Rig.dueMem("the PLACE starts at 0", x, 0, 0, 7);
        Check.due("about(1)", x.about(1), 1);
        Check.due("STARTS", x.state(0), 0);
        Check.due("line 1 again", Rig.assemble(x, " FOO"), 2);
        Check.due("line 1 again", x.about(0), 1);
    }

    /** As many words as a text can have. */
    private static void longest() {
        SignMachine x = good(" IN\n".repeat(998) + " END 7", 990, 36, 36, 36, 36, 36, 36, 36, 36, 0);
        Check.due("about(1)", x.about(1), 998);
        String locals = " IN 1F\n".repeat(500);
        good(locals + "1H NOP" + END, 0, instruction(500, 0, 0, 36), instruction(500, 0, 0, 36));
        x = good(locals + "1H NOP" + END, 499, instruction(500, 0, 0, 36), 0);
        Check.due("about(1)", x.about(1), 501);
        good(" CON 1" + "+1".repeat(1900) + END, 0, 1901);
        good(" CON 1" + ",1".repeat(1900) + END, 0, 1);
        good(" ".repeat(3900) + "CON" + " ".repeat(50) + "9" + END, 0, 9);
        bad("A".repeat(3990) + END, 1, 1);
        bad(" " + "A".repeat(3980) + END, 2, 1);
    }

    /** The table of the first primes, as the books have it: 2, 3, 5, 7, .. come into 1000 on. */
    private static void aProgram() {
        String text = "L EQU 30\nPRIME EQU 999\n ORIG 100\nSTART LD1 =1-L=\n LD2 =3=\n2H INC1 1\n ST2 PRIME+L,1\n J1Z 2F\n4H INC2 2\n ENT3 2\n"
            + "6H ENTA 0\n ENTX 0,2\n DIV PRIME,3\n JXZ 4B\n CMPA PRIME,3\n INC3 1\n JG 6B\n JMP 2B\n2H HLT\n ORIG PRIME+1\n CON 2\n END START";
        SignMachine x = new SignMachine();
        Check.due("primes", Rig.assemble(x, text), 0);
        Check.due("LITERALS from", x.about(1), 1001);
        Rig.dueMem("LITERAL", x, 1001, 1, 29);
        Rig.dueMem("LITERAL", x, 1002, 0, 3);
        x.run(20000);
        Check.due("HALT", x.state(6), 1);
        int[] primes = {2, 3, 5, 7, 11, 13, 17, 19, 23, 29, 31, 37, 41, 43, 47, 53, 59, 61, 67, 71, 73, 79, 83, 89, 97, 101, 103, 107, 109, 113};
        for (int i = 0; i < primes.length; i++) {
            Rig.dueMem("prime " + i, x, 1000 + i, 0, primes[i]);
        }
    }
}
