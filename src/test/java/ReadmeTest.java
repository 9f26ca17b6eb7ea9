import java.io.File;
import java.io.IOException;
import java.lang.reflect.Method;
import java.lang.reflect.Modifier;
import java.nio.charset.StandardCharsets;
import java.nio.file.Files;
import java.nio.file.Path;

/** README.md: its examples answer what it tells, and it leaves out no call and no test. */
public final class ReadmeTest {
    private static String readme;

    public static void main(String[] args) throws IOException {
        readme = Files.readString(Path.of("README.md"), StandardCharsets.UTF_8);
        words();
        text();
        everyCall();
        everyTest();
        Check.end();
    }

    /** The line stands in README.md with the answer that is due beside it. */
    private static void shown(String call, long got, long want) {
        Check.due(call, got, want);
        told(call, want + "");
    }

    private static void told(String call, String beside) {
        for (String line : readme.split("\n")) {
            if (line.startsWith(call + ";") && line.contains("// " + beside)) {
                return;
            }
        }
        Check.fail("README.md has no line " + call + " that tells " + beside);
    }

    private static void words() {
        SignMachine machine = new SignMachine();
        Check.due("ENTA 5", machine.poke(0, 0, 5 << 18 | 2 << 6 | 48), true);
        told("machine.poke(0, 0, 5 << 18 | 2 << 6 | 48)", "ENTA 5");
        Check.due("HLT", machine.poke(1, 0, 2 << 6 | 5), true);
        told("machine.poke(1, 0, 2 << 6 | 5)", "HLT");
        shown("machine.run(100)", machine.run(100), 2);
        shown("machine.state(6)", machine.state(6), 1);
        shown("machine.registerSize(0)", machine.registerSize(0), 5);
    }

    private static void text() {
        SignMachine other = new SignMachine();
        Check.due("feed", other.feed(0x20454E54, 0x4120350A, 0x20484C54, 0x0A20454E, 0x44203020), 20);
        told("other.feed(0x20454E54, 0x4120350A, 0x20484C54, 0x0A20454E, 0x44203020)", "\" ENTA 5\\n HLT\\n END 0\"");
        shown("other.end(19)", other.end(19), 19);
        shown("other.assemble()", other.assemble(), 0);
        Rig.dueMem("ENTA 5", other, 0, 0, 5 << 18 | 2 << 6 | 48);
        Rig.dueMem("HLT", other, 1, 0, 2 << 6 | 5);
        shown("other.run(100)", other.run(100), 2);
        Check.due("a text with a fault", other.feed(0x204C4441, 0x20582B31, 0x0A20454E, 0x44203020, 0x20202020), 20);
        told("other.feed(0x204C4441, 0x20582B31, 0x0A20454E, 0x44203020, 0x20202020)", "\" LDA X+1\\n END 0\"");
        shown("other.assemble()", other.assemble(), 3);
        shown("other.about(0)", other.about(0), 1);
        Check.due("the text is empty again", other.about(2), 0);
        Rig.dueMem("memory is as it was", other, 0, 0, 5 << 18 | 2 << 6 | 48);
    }

    private static void everyCall() {
        for (Method m : SignMachine.class.getDeclaredMethods()) {
            if (Modifier.isPublic(m.getModifiers())) {
                Check.due("README.md tells of " + m.getName(), readme.contains("`" + m.getName() + "("), true);
            }
        }
    }

    private static void everyTest() {
        String[] files = new File("src/test/java").list();
        Check.due("there are tests", files != null && files.length > 0, true);
        for (String file : files) {
            if (file.endsWith("Test.java")) {
                String name = file.substring(0, file.length() - ".java".length());
                Check.due("README.md tells of " + name, readme.contains("`" + name + "`"), true);
            }
        }
    }
}
