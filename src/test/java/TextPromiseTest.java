/** Promises 13, 14 and 16: the bytes of the text, and what is told of it. */
public final class TextPromiseTest {
    public static void main(String[] args) {
        feeding();
        bytesInOrder();
        ending();
        full();
        telling();
        Check.end();
    }

    private static void feeding() {
        SignMachine x = new SignMachine();
        for (int i = 1; i <= 200; i++) {
            Check.due("feed", x.feed(i, -i, 0, Integer.MIN_VALUE, Integer.MAX_VALUE), 20 * i);
        }
        for (int i = 0; i < 3; i++) {
            Check.due("feed beyond 4,000", x.feed(1, 2, 3, 4, 5), -1);
            Check.due("bytes", x.about(2), 4000);
        }
        Check.due("end(19)", x.end(19), 3999);
        Check.due("feed beyond 4,000", x.feed(1, 2, 3, 4, 5), -1);
        Check.due("bytes", x.about(2), 3999);
        Check.due("end(2)", x.end(2), 3981);
        Check.due("feed beyond 4,000", x.feed(1, 2, 3, 4, 5), -1);
        Check.due("bytes", x.about(2), 3981);
        Check.due("end(19)", x.end(19), 3980);
        Check.due("feed", x.feed(1, 2, 3, 4, 5), 4000);
    }

    /** The codes of two ALF tell which bytes came, and in which order. */
    private static void bytesInOrder() {
        SignMachine x = new SignMachine();
        Check.due("feed", x.feed(0x20414C46, 0x20414243, 0x44450A20, 0x414C4620, 0x464A585A), 20);
        Check.due("feed", x.feed(0x300A2045, 0x4E442030, 0, 0, 0), 40);
        Check.due("end(8)", x.end(8), 28);
        Check.due("assemble()", x.assemble(), 0);
        Rig.dueMem("ABCDE", x, 0, 0, Rig.bytes(1, 2, 3, 4, 5));
        Rig.dueMem("FJXZ0", x, 1, 0, Rig.bytes(6, 11, 27, 29, 30));
        Check.due("empty", x.about(2), 0);
        Check.due("bytes above 127 are none of the codes", Rig.assemble(x, " ALF \u00c1\n END 0"), 1);
        Check.due("bytes above 127 are none of the codes", Rig.assemble(x, " ALF A\u00ff\n END 0"), 1);
        Check.due("byte 0 is none of the codes", Rig.assemble(x, " ALF A\u0000\n END 0"), 1);
    }

    private static void ending() {
        SignMachine x = new SignMachine();
        Check.due("end(0) of nothing", x.end(0), -1);
        Check.due("end(20) of nothing", x.end(20), -1);
        Check.due("feed", x.feed(0, 0, 0, 0, 0), 20);
        int[] wrong = {-1, 21, 40, Integer.MIN_VALUE, Integer.MAX_VALUE};
        for (int n : wrong) {
            Check.due("end(" + n + ")", x.end(n), -1);
            Check.due("bytes", x.about(2), 20);
        }
        Check.due("end(20)", x.end(20), 20);
        Check.due("end(19)", x.end(19), 19);
        Check.due("fewer than twenty", x.end(5), -1);
        Check.due("bytes", x.about(2), 19);
        Check.due("feed", x.feed(0, 0, 0, 0, 0), 39);
        Check.due("end(0)", x.end(0), 19);
        Check.due("feed", x.feed(0, 0, 0, 0, 0), 39);
        Check.due("end(7)", x.end(7), 26);
        Check.due("the last twenty of all", x.end(3), 9);
        Check.due("fewer than twenty", x.end(0), -1);
    }

    private static void full() {
        SignMachine x = new SignMachine();
        StringBuilder text = new StringBuilder();
        while (text.length() < 3990) {
            text.append(text.length() % 38 == 0 ? " NOP\n" : ";\n");
        }
        while (text.length() < 3993) {
            text.append("\n");
        }
        text.append(" END 7\n");
        Check.due("a text of 4,000 bytes", text.length(), 4000);
        Check.due("assemble()", Rig.assemble(x, text.toString()), 0);
        Check.due("state(0)", x.state(0), 7);
        Check.due("about(2)", x.about(2), 0);
        Check.due("4,000 lines", Rig.assemble(x, "\n".repeat(4000)), 6);
        Check.due("4,000 lines", x.about(0), 4000);
    }

    private static void telling() {
        SignMachine x = new SignMachine();
        int[] wrong = {-1, 3, 4, Integer.MIN_VALUE, Integer.MAX_VALUE};
        for (int what : wrong) {
            Check.due("about(" + what + ")", x.about(what), -1);
        }
        Check.due("a good text", Rig.assemble(x, " ORIG 50\n LDA =1=\n END 3"), 0);
        Check.due("about(0)", x.about(0), 0);
        Check.due("about(1)", x.about(1), 51);
        Check.due("feed leaves that", x.feed(0, 0, 0, 0, 0), 20);
        Check.due("about(1)", x.about(1), 51);
        Check.due("end", x.end(0), 0);
        Check.due("a text with a fault", Rig.assemble(x, "\n\n FOO\n"), 2);
        Check.due("about(0)", x.about(0), 3);
        Check.due("about(1)", x.about(1), -1);
        Check.due("about(2)", x.about(2), 0);
        Check.due("feed leaves that", x.feed(0, 0, 0, 0, 0), 20);
        Check.due("about(0)", x.about(0), 3);
        Check.due("end", x.end(0), 0);
        Check.due("a good text", Rig.assemble(x, " ORIG 3999\n NOP\n END 3"), 0);
        Check.due("about(0)", x.about(0), 0);
        Check.due("about(1)", x.about(1), 4000);
    }
}
