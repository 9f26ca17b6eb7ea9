import java.io.IOException;
import java.lang.reflect.Constructor;
import java.lang.reflect.Field;
import java.lang.reflect.Method;
import java.lang.reflect.Modifier;
import java.nio.charset.StandardCharsets;
import java.nio.file.Files;
import java.nio.file.Path;
import java.util.ArrayList;
import java.util.Arrays;
import java.util.List;
import java.util.TreeSet;
import java.util.regex.Matcher;
import java.util.regex.Pattern;

/** The public face, and the rules of LANGUAGE.md that can be seen in the source and in the classes. */
public final class LanguageTest {
    private static final String[] FACE = {"poke(int,int,int)boolean", "peekSign(int)int", "peekSize(int)int", "step()int", "run(int)int",
        "registerSign(int)int", "registerSize(int)int", "set(int,int,int)boolean", "state(int)int", "go(int)boolean", "tape(int,int,int)int",
        "feed(int,int,int,int,int)int", "end(int)int", "assemble()int", "about(int)int"};
    private static final String[] FORBIDDEN = {"throw", "throws", "try", "catch", "synchronized", "assert", "import", "package", "->", "::",
        "Exact", "System.currentTimeMillis", "System.nanoTime", "Random", "Thread", "hashCode", "toString", "protected"};

    public static void main(String[] args) throws IOException {
        face();
        nestedClasses();
        String source = Files.readString(Path.of("src/main/java/SignMachine.java"), StandardCharsets.UTF_8);
        words(source);
        methods(source);
        Check.end();
    }

    private static void face() {
        Class<?> c = SignMachine.class;
        Check.due("public final", Modifier.isPublic(c.getModifiers()) && Modifier.isFinal(c.getModifiers()), true);
        TreeSet<String> found = new TreeSet<>();
        for (Method m : c.getDeclaredMethods()) {
            if (!Modifier.isPrivate(m.getModifiers())) {
                List<String> takes = new ArrayList<>();
                for (Class<?> p : m.getParameterTypes()) {
                    takes.add(p.getName());
                }
                found.add(m.getName() + "(" + String.join(",", takes) + ")" + m.getReturnType().getName());
                Check.due(m.getName() + " is public and not static", Modifier.isPublic(m.getModifiers()) && !Modifier.isStatic(m.getModifiers()), true);
            }
        }
        if (!found.equals(new TreeSet<>(Arrays.asList(FACE)))) {
            Check.fail("the methods are " + found);
        }
        Constructor<?>[] made = c.getDeclaredConstructors();
        Check.due("one constructor", made.length, 1);
        Check.due("a public one without parameters", Modifier.isPublic(made[0].getModifiers()) && made[0].getParameterCount() == 0, true);
        for (Field f : c.getDeclaredFields()) {
            boolean constant = f.getName().equals("BAD") || f.getName().equals("NONE");
            Check.due(f.getName() + " is private or of the face", constant ? Modifier.isPublic(f.getModifiers()) : Modifier.isPrivate(f.getModifiers()), true);
        }
    }

    private static void nestedClasses() {
        TreeSet<String> face = new TreeSet<>();
        for (String f : FACE) {
            face.add(f.substring(0, f.indexOf('(')));
        }
        Class<?>[] nested = SignMachine.class.getDeclaredClasses();
        Check.due("at most twelve classes", nested.length <= 11, true);
        for (Class<?> c : nested) {
            Check.due(c.getName() + " is static", Modifier.isStatic(c.getModifiers()), true);
            Check.due(c.getName() + " is not public", Modifier.isPublic(c.getModifiers()), false);
            int fields = 0;
            for (Field f : c.getDeclaredFields()) {
                if (Modifier.isStatic(f.getModifiers())) {
                    Check.due(c.getName() + "." + f.getName() + " is final", Modifier.isFinal(f.getModifiers()), true);
                } else {
                    fields++;
                }
            }
            Check.due(c.getName() + " has at most twenty fields", fields <= 20, true);
            for (Method m : c.getDeclaredMethods()) {
                Check.due(c.getName() + "." + m.getName() + " has a name of the face", face.contains(m.getName()), false);
                Check.due(c.getName() + "." + m.getName() + " takes at most seven", m.getParameterCount() <= 7, true);
            }
        }
    }

    private static String withoutCommentsAndTexts(String source) {
        return source.replaceAll("(?s)/\\*.*?\\*/", "").replaceAll("//.*", "").replaceAll("\"(\\\\.|[^\"\\\\])*\"", "\"\"").replaceAll("'(\\\\.|[^'\\\\])'", "' '");
    }

    private static void words(String source) {
        String code = withoutCommentsAndTexts(source);
        for (String word : FORBIDDEN) {
            boolean letters = Character.isLetter(word.charAt(0)) && !word.equals("Exact");
            Matcher m = Pattern.compile(letters ? "\\b" + Pattern.quote(word) + "\\b" : Pattern.quote(word)).matcher(code);
            Check.due("the source has '" + word + "'", m.find(), false);
        }
        Check.due("a text joined by +", Pattern.compile("\"\" *\\+|\\+ *\"\"").matcher(code).find(), false);
        for (int i = 0; i < source.length(); i++) {
            if (source.charAt(i) > 126) {
                Check.fail("the source has the character " + (int) source.charAt(i));
            }
        }
    }

    private static void methods(String source) {
        int length = 0;
        boolean inside = false;
        int found = 0;
        for (String line : source.split("\n")) {
            boolean begins = line.matches(" {4}( {4})?[A-Za-z].*\\) \\{");
            if (begins) {
                inside = true;
                length = 0;
                found++;
            }
            length++;
            if (inside && line.matches(" {4}( {4})?\\}")) {
                Check.due("a method of " + length + " lines is too long", length > 60, false);
                inside = false;
            }
        }
        Check.due("methods were found", found > 80, true);
    }
}
